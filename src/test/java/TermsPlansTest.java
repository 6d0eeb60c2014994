/** "PLANS are 0 .. 3, each of up to 6 PARTS", and THE BEST plan. */
public final class TermsPlansTest {
    public static void main(String[] args) {
        Check check = new Check();
        noSuchPlan(check);
        endsOfAPart(check);
        sixParts(check);
        allPartsAreGone(check);
        withoutParts(check);
        eachMayBeTheBest(check);
        ofSeveralTheLeast(check);
        noneIsTheBest(check);
        clashAtEveryPointOfTheWay(check);
        clashThenMoreParts(check);
        jackknifedInTheLastStep(check);
        jackknifedOnTheWay(check);
        fromTheStart(check);
        plansStay(check);
        noBody(check);
        check.end();
    }

    /** One cell at the start, one more for each step to a new place. */
    private static SweptPaths square() {
        SweptPaths paths = new SweptPaths();
        paths.body(1, 0, 4, 4, 4);
        paths.step(8);
        paths.start(4, 4, 0);
        return paths;
    }

    private static void noSuchPlan(Check check) {
        for (int bodies = 0; bodies <= 1; bodies++) {
            SweptPaths paths = new SweptPaths();
            if (bodies == 1) {
                paths.body(1, 0, 4, 4, 4);
            }
            check.refusesBeyond("plan of part", 0, 3, n -> paths.part(n, 0, 1, true));
            check.refusesBeyond("plan of clear", 0, 3, n -> paths.clear(n));
            check.refusesBeyond("plan of sweeps", 0, 3, n -> paths.sweeps(n));
            for (int plan = 0; plan <= 3; plan++) {
                check.due("a part of plan " + plan, 1, paths.part(plan, 0, 1, true));
                check.due("clear of plan " + plan, 1, paths.clear(plan));
                check.due("clear of an empty plan " + plan, 0, paths.clear(plan));
            }
        }
    }

    /** "a turn, so many steps (1 .. 60), forwards or back". */
    private static void endsOfAPart(Check check) {
        SweptPaths paths = square();
        check.due("the least turn", 1, paths.part(0, -3, 1, true));
        check.due("the greatest turn", 2, paths.part(0, 3, 1, false));
        check.due("the fewest steps", 1, paths.part(1, 0, 1, true));
        check.due("the most steps", 1, paths.part(2, 0, 60, false));
        check.due("a start and one step", 2, paths.sweeps(1));
        check.due("a start and 32 steps, and 28 where no cell is", 33, paths.sweeps(2));
        check.refusesBeyond("turn", -3, 3, n -> paths.part(3, n, 1, true));
        check.refusesBeyond("steps", 1, 60, n -> paths.part(3, 0, n, true));
        check.due("none of them came", 0, paths.clear(3));
    }

    /** "illegal state: it has 6": of this plan alone; what is out of its bounds is told first. */
    private static void sixParts(Check check) {
        for (int p = 0; p <= 3; p++) {
            int plan = p;
            SweptPaths paths = square();
            for (int n = 1; n <= 6; n++) {
                check.due("parts of plan " + plan, n, paths.part(plan, 0, 1, true));
            }
            check.state("a seventh part", () -> paths.part(plan, 0, 1, true));
            check.state("a seventh part", () -> paths.part(plan, -3, 60, false));
            check.refusesBeyond("turn of a seventh", -3, 3, n -> paths.part(plan, n, 1, true));
            check.refusesBeyond("steps of a seventh", 1, 60, n -> paths.part(plan, 0, n, true));
            check.due("another plan has room", 1, paths.part((plan + 1) % 4, 0, 1, true));
            check.due("six are gone", 7, paths.sweeps(plan));
            check.due("it had six", 6, paths.clear(plan));
            check.due("room again", 1, paths.part(plan, 0, 2, true));
            check.due("only the new one is gone", 3, paths.sweeps(plan));
        }
    }

    /** Parts of 60 steps of 1 unit from -180 on: n of them reach up to 60 n - 176, the first middle is -180. */
    private static void allPartsAreGone(Check check) {
        SweptPaths paths = new SweptPaths();
        paths.body(1, 0, 4, 4, 4);
        paths.step(1);
        paths.start(-180, 4, 0);
        int[] due = {9, 16, 24, 31, 39, 46};
        for (int n = 0; n < 6; n++) {
            paths.part(3, 0, 60, true);
            check.due("cells of parts: " + (n + 1), due[n], paths.sweeps(3));
        }
    }

    /** "(One without parts ends where it begins.)" */
    private static void withoutParts(Check check) {
        SweptPaths paths = square();
        for (int plan = 0; plan <= 3; plan++) {
            check.due("it sweeps what is swept at the start", 1, paths.sweeps(plan));
        }
        check.due("four without parts: the least", 0, paths.best());
        paths.part(0, 0, 1, true);
        check.due("three without parts: the least", 1, paths.best());
        paths.pole(4, 4);
        check.due("a pole where they begin", SweptPaths.NONE, paths.best());
        check.due("it sweeps that all the same", 1, paths.sweeps(1));
        paths.start(500, 500, 0);
        check.due("where there are no cells", 0, paths.sweeps(1));
        check.due("all sweep none: the least, though it has a part", 0, paths.best());
    }

    private static void eachMayBeTheBest(Check check) {
        for (int best = 0; best <= 3; best++) {
            SweptPaths paths = square();
            for (int plan = 0; plan <= 3; plan++) {
                paths.part(plan, 0, plan == best ? 2 : 3, true);
            }
            check.due("by the fewest cells", best, paths.best());
            SweptPaths alone = square();
            alone.pole(20, 4);
            for (int plan = 0; plan <= 3; plan++) {
                alone.part(plan, 0, plan == best ? 30 : 3, plan != best);
            }
            check.due("the only one without a clash", best, alone.best());
        }
    }

    /** "of several the least". */
    private static void ofSeveralTheLeast(Check check) {
        for (int first = 0; first <= 3; first++) {
            for (int second = first + 1; second <= 3; second++) {
                SweptPaths paths = square();
                for (int plan = 0; plan <= 3; plan++) {
                    boolean few = plan == first || plan == second;
                    paths.part(plan, 0, few ? 4 : 5, plan != second);
                }
                check.due("as few as " + second, first, paths.best());
            }
        }
    }

    private static void noneIsTheBest(Check check) {
        SweptPaths paths = square();
        for (int plan = 0; plan <= 3; plan++) {
            paths.part(plan, 0, 1 + plan, true);
        }
        check.due("without a pole", 0, paths.best());
        paths.pole(12, 4);
        check.due("all strike it", SweptPaths.NONE, paths.best());
        paths.clear(2);
        check.due("but for one without parts", 2, paths.best());
    }

    /** Five steps: a pole at the start, behind each step, and one that would be behind a sixth. */
    private static void clashAtEveryPointOfTheWay(Check check) {
        for (int at = 0; at <= 6; at++) {
            SweptPaths paths = square();
            paths.part(0, 0, 5, true);
            for (int plan = 1; plan <= 3; plan++) {
                paths.part(plan, 0, 60, true);
            }
            // In the middle of the square, which reaches 4 ahead: the pole behind the sixth is 8 away from the fifth.
            paths.pole(4 + 8 * at, 4);
            check.due("a pole behind step " + at, at <= 5 ? SweptPaths.NONE : 0, paths.best());
            check.due("clash or not", 6, paths.sweeps(0));
        }
    }

    /** A clash in an earlier part counts, and all its parts are swept all the same. */
    private static void clashThenMoreParts(Check check) {
        SweptPaths paths = square();
        paths.pole(20, 4);
        paths.part(0, 0, 3, true);
        paths.part(0, 0, 6, false);
        paths.part(1, 0, 40, false);
        paths.part(2, 0, 3, true);
        paths.part(3, 0, 3, true);
        check.due("-3 .. 3 are swept", 7, paths.sweeps(0));
        check.due("the long one gets through", 1, paths.best());
    }

    /** Lorry and trailer of LENGTH 1 with STEP 16 jackknife by one turn of 2, but not by a turn of 0. */
    private static SweptPaths shortTrailer() {
        SweptPaths paths = new SweptPaths();
        paths.body(1, 0, 4, 4, 4);
        paths.body(1, 0, 0, 0, 1);
        paths.step(16);
        paths.start(4, 4, 0);
        return paths;
    }

    /** "and not jackknifed": behind its last step too. */
    private static void jackknifedInTheLastStep(Check check) {
        SweptPaths paths = shortTrailer();
        paths.part(0, 2, 1, true);
        paths.part(1, 0, 1, true);
        paths.part(1, 2, 1, true);
        paths.part(2, 0, 9, true);
        paths.part(3, 0, 10, true);
        check.due("the first that is not", 2, paths.best());
        check.due("the jackknifed one sweeps fewer", true, paths.sweeps(0) < paths.sweeps(2));
        paths.part(2, -2, 1, true);
        paths.part(3, 2, 1, false);
        check.due("all are", SweptPaths.NONE, paths.best());
        paths.clear(1);
        check.due("but the one without parts", 1, paths.best());
    }

    /** "as far as it can be gone": behind the step that jackknifes it nothing more is swept. */
    private static void jackknifedOnTheWay(Check check) {
        SweptPaths paths = shortTrailer();
        paths.part(0, 0, 2, true);
        paths.part(0, 2, 1, true);
        int swept = paths.sweeps(0);
        paths.part(0, 0, 60, true);
        check.due("a part behind it adds nothing", swept, paths.sweeps(0));
        paths.part(1, 0, 2, true);
        paths.part(1, 2, 60, true);
        check.due("nor do its other steps", swept, paths.sweeps(1));
        paths.part(2, 0, 3, true);
        check.due("the step itself sweeps as one without a turn", swept, paths.sweeps(2));
    }

    /** Wherever the live one stands, jackknifed or at its end: a plan goes from the start, with rests of 0. */
    private static void fromTheStart(Check check) {
        SweptPaths paths = new SweptPaths();
        paths.body(1, 0, 4, 4, 4);
        paths.body(30, 0, 12, 4, 4);
        paths.start(-100, -100, 5);
        paths.part(0, 3, 9, true);
        paths.part(1, 1, 40, true);
        paths.part(2, -1, 40, true);
        int[] sweeps = {paths.sweeps(0), paths.sweeps(1), paths.sweeps(2), paths.sweeps(3)};
        int best = paths.best();
        for (int n = 0; n < 25; n++) {
            paths.go(n % 2, 17, n % 3 != 0);
            for (int plan = 0; plan <= 3; plan++) {
                check.due("sweeps of plan " + plan, sweeps[plan], paths.sweeps(plan));
            }
            check.due("best", best, paths.best());
        }
        check.due("the live one is jackknifed", true, paths.isStuck());
        paths.start(-100, -100, 5);
        for (int n = 0; n < 20; n++) {
            paths.go(0, 200, n % 2 == 0);
        }
        check.due("4000 steps", 4000, paths.go(0, 1, true));
        check.due("sweeps behind 4000 steps", sweeps[1], paths.sweeps(1));
        check.due("best behind 4000 steps", best, paths.best());
    }

    /** What lets the run begin anew leaves the plans as they are. */
    private static void plansStay(Check check) {
        SweptPaths paths = square();
        paths.part(0, 0, 5, true);
        paths.part(1, 0, 3, true);
        paths.part(1, 0, 1, true);
        paths.go(0, 7, true);
        paths.start(12, 12, 16);
        check.due("behind a start", 6, paths.sweeps(0));
        check.due("behind a start", 5, paths.sweeps(1));
        paths.step(16);
        check.due("behind a step", 6, paths.sweeps(0));
        check.due("behind a step", 5, paths.sweeps(1));
        paths.body(8, 0, 4, 4, 4);
        check.due("behind a body", 12, paths.sweeps(0));
        check.due("behind a body", 10, paths.sweeps(1));
        check.due("parts of plan 0", 1, paths.clear(0));
        check.due("parts of plan 1", 2, paths.clear(1));
        check.due("parts of plan 2", 0, paths.clear(2));
    }

    private static void noBody(Check check) {
        SweptPaths paths = new SweptPaths();
        check.due("a part without a body", 1, paths.part(2, 0, 1, true));
        check.state("best without a body", () -> paths.best());
        for (int p = 0; p <= 3; p++) {
            int plan = p;
            check.state("sweeps without a body", () -> paths.sweeps(plan));
        }
        check.refusesBeyond("sweeps of no plan without a body", 0, 3, n -> paths.sweeps(n));
        check.due("clear without a body", 1, paths.clear(2));
    }
}
