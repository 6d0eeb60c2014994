/** "Behind a step in which a trailer's ASKEW is then .. beyond -24 .. 24 it is JACKKNIFED". */
public final class TermsJackknifedTest {
    public static void main(String[] args) {
        Check check = new Check();
        atTheEnds(check);
        farBeyond(check);
        firstTrailerAlone(check);
        secondTrailerAlone(check);
        theSizeBeforeTheSwing(check);
        noStepAnyMore(check);
        whatFreesIt(check);
        whatDoesNotFreeIt(check);
        theLastStepCounts(check);
        fourThousandIsNoJackknife(check);
        check.end();
    }

    /** The last trailer is so long that it hardly turns. */
    private static SweptPaths train(int... lengths) {
        SweptPaths paths = new SweptPaths();
        for (int length : lengths) {
            paths.body(length, 0, 1, 1, 1);
        }
        paths.step(1);
        return paths;
    }

    /** 3 + 6 + .. + 24 is 108, which turns a trailer of 200 by nothing: so the askew is that of the lorry. */
    private static void atTheEnds(Check check) {
        for (int sign = -1; sign <= 1; sign += 2) {
            for (boolean forwards : new boolean[] {true, false}) {
                SweptPaths paths = train(1, 200);
                int way = forwards ? sign : -sign;
                check.due("8 steps", 8, paths.go(3 * way, 8, forwards));
                check.due("askew at the end", 24 * sign, paths.told(1, 3));
                check.due("the end is not beyond", false, paths.isStuck());
                check.due("a step more comes", 9, paths.go(way, 1, forwards));
                check.due("askew beyond the end", 25 * sign, paths.told(1, 3));
                check.due("greatest askew", 25, paths.told(1, 4));
                check.due("beyond", true, paths.isStuck());
            }
        }
    }

    /** Askew 3, STEP 12 and LENGTH 1 swing by 36: askew 31; STEP 17 and askew 2 by 34: askew -32. */
    private static void farBeyond(Check check) {
        SweptPaths most = train(1, 1);
        most.step(12);
        check.due("one step", 1, most.go(3, 9, true));
        check.due("askew", 31, most.told(1, 3));
        check.due("stuck at 31", true, most.isStuck());
        SweptPaths least = train(1, 1);
        least.step(17);
        check.due("one step", 1, least.go(2, 9, true));
        check.due("askew", -32, least.told(1, 3));
        check.due("stuck at -32", true, least.isStuck());
    }

    /** Trailer 2 has LENGTH 200 too, and stays behind trailer 1, which hardly turns. */
    private static void firstTrailerAlone(Check check) {
        SweptPaths paths = train(1, 200, 200);
        check.due("nine steps", 9, paths.go(-3, 100, true));
        check.due("trailer 1", -27, paths.told(1, 3));
        check.due("trailer 2", 0, paths.told(2, 3));
        check.due("stuck", true, paths.isStuck());
    }

    private static void secondTrailerAlone(Check check) {
        SweptPaths paths = train(1, 1, 200);
        check.due("nine steps", 9, paths.go(-3, 100, true));
        check.due("trailer 1", 0, paths.told(1, 3));
        check.due("trailer 2", -27, paths.told(2, 3));
        check.due("stuck", true, paths.isStuck());
    }

    /** "(anew, with the new headings)": askew 25 before the trailer swings by one is 24, and not beyond. */
    private static void theSizeBeforeTheSwing(Check check) {
        for (int sign = -1; sign <= 1; sign += 2) {
            SweptPaths paths = train(1, 109);
            paths.go(3 * sign, 8, true);
            check.due("heading of the lorry", sign > 0 ? 24 : 40, paths.told(0, 2));
            check.due("nine", 9, paths.go(sign, 1, true));
            check.due("askew", 24 * sign, paths.told(1, 3));
            check.due("not stuck", false, paths.isStuck());
            check.due("the greatest is that with the new headings", 24, paths.told(1, 4));
            check.due("ten", 10, paths.go(0, 1, true));
        }
    }

    private static SweptPaths stuck() {
        SweptPaths paths = train(1, 200);
        paths.go(3, 200, true);
        return paths;
    }

    /** "no step comes any more": and go tells how many were made, and does not throw. */
    private static void noStepAnyMore(Check check) {
        SweptPaths paths = stuck();
        String before = Snapshot.of(paths, 2);
        for (int turn = -3; turn <= 3; turn++) {
            check.due("forwards", 9, paths.go(turn, 1, true));
            check.due("back", 9, paths.go(turn, 200, false));
        }
        check.due("nothing moves", true, before.equals(Snapshot.of(paths, 2)));
        check.refusesBeyond("turn when stuck", -3, 3, n -> paths.go(n, 1, true));
        check.refusesBeyond("steps when stuck", 1, 200, n -> paths.go(0, n, true));
    }

    /** "till all begins anew". */
    private static void whatFreesIt(Check check) {
        SweptPaths byStart = stuck();
        byStart.start(0, 0, 0);
        freed(check, "start", byStart);
        SweptPaths byStep = stuck();
        byStep.step(1);
        freed(check, "step", byStep);
        SweptPaths byBody = stuck();
        byBody.body(5, 0, 1, 1, 1);
        freed(check, "body", byBody);
    }

    private static void freed(Check check, String by, SweptPaths paths) {
        check.due("stuck behind a new " + by, false, paths.isStuck());
        check.due("askew behind a new " + by, 0, paths.told(1, 3));
        check.due("greatest askew behind a new " + by, 0, paths.told(1, 4));
        check.due("eight steps behind a new " + by, 8, paths.go(3, 8, true));
        check.due("still free behind a new " + by, false, paths.isStuck());
    }

    private static void whatDoesNotFreeIt(Check check) {
        SweptPaths paths = stuck();
        paths.pole(0, 0);
        paths.part(0, 0, 5, true);
        paths.best();
        paths.sweeps(0);
        paths.clear(0);
        check.argument("a refused start", () -> paths.start(0, 1001, 0));
        check.argument("a refused step", () -> paths.step(0));
        check.argument("a refused body", () -> paths.body(0, 0, 0, 0, 1));
        paths.body(5, 0, 1, 1, 1);
        paths.go(3, 200, true);
        check.state("a fourth body", () -> paths.body(5, 0, 1, 1, 1));
        check.due("stuck", true, paths.isStuck());
        check.due("no step", 9, paths.go(0, 1, true));
    }

    /** The lorry of STEP 16 and LENGTH 1 jackknifes in its first step: what it sweeps and strikes there counts. */
    private static void theLastStepCounts(Check check) {
        SweptPaths paths = new SweptPaths();
        paths.body(1, 0, 4, 4, 4);
        paths.body(1, 0, 0, 0, 1);
        paths.step(16);
        paths.pole(20, 4);
        paths.start(4, 4, 0);
        check.due("no clash yet", SweptPaths.NONE, paths.clash(0));
        check.due("the cell is not swept yet", false, paths.cell(2, 0));
        check.due("one step", 1, paths.go(2, 200, true));
        check.due("stuck", true, paths.isStuck());
        check.due("the cell of the last step", true, paths.cell(2, 0));
        check.due("the clash of the last step", 1, paths.clash(0));
        check.due("the body", 0, paths.clash(1));
        check.due("the pole", 0, paths.clash(2));
    }

    private static void fourThousandIsNoJackknife(Check check) {
        SweptPaths paths = train(1, 10);
        for (int n = 0; n < 20; n++) {
            paths.go(0, 200, n % 2 == 0);
        }
        check.due("4000 are made", 4000, paths.go(3, 200, true));
        check.due("not stuck", false, paths.isStuck());
        check.due("not askew", 0, paths.told(1, 4));
    }
}
