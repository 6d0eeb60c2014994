/** "A STEP (1 .. 20; 4 at first) with a TURN (-3 .. 3), forwards or back", and how trailers follow. */
public final class TermsStepTest {
    public static void main(String[] args) {
        Check check = new Check();
        ends(check);
        placeFirstThenHeading(check);
        everyTurn(check);
        restJustEnough(check);
        restOneShort(check);
        restBelowNothing(check);
        restChangesItsSign(check);
        restOnTheWayBack(check);
        severalDirectionsAtOnce(check);
        longestTrailer(check);
        askewHalfRound(check);
        theLorrysLengthIsNoMatter(check);
        check.end();
    }

    private static SweptPaths train(int step, int... lengths) {
        SweptPaths paths = new SweptPaths();
        for (int length : lengths) {
            paths.body(length, 0, 1, 1, 1);
        }
        paths.step(step);
        return paths;
    }

    /** One step with each of the turns; the heading of the trailer is due behind it. */
    private static void headings(Check check, String name, SweptPaths paths, boolean forwards, int[][] turnsAndDue) {
        for (int n = 0; n < turnsAndDue.length; n++) {
            paths.go(turnsAndDue[n][0], 1, forwards);
            check.due(name + ", step " + (n + 1), turnsAndDue[n][1], paths.told(1, 2));
        }
    }

    private static void ends(Check check) {
        SweptPaths paths = new SweptPaths();
        paths.body(1, 0, 1, 1, 1);
        paths.go(0, 1, true);
        check.due("a step of 4 at first", 4 * 4096, paths.told(0, 0));
        check.due("4 at first", 4, paths.step(1));
        paths.go(0, 1, true);
        check.due("the least step", 4096, paths.told(0, 0));
        check.due("it was 1", 1, paths.step(20));
        paths.go(0, 1, false);
        check.due("the greatest step, back", -20 * 4096, paths.told(0, 0));
        check.refusesBeyond("step", 1, 20, n -> paths.step(n));
        paths.go(0, 1, false);
        check.due("it still goes 20", -40 * 4096, paths.told(0, 0));
        check.due("it was 20", 20, paths.step(20));
    }

    /** The place goes along the heading as it was before the turn. */
    private static void placeFirstThenHeading(Check check) {
        SweptPaths paths = train(1, 1);
        paths.start(0, 0, 16);
        paths.go(3, 1, true);
        check.due("x", 0, paths.told(0, 0));
        check.due("y", 4096, paths.told(0, 1));
        paths.start(0, 0, 16);
        paths.go(3, 1, false);
        check.due("x, back", 0, paths.told(0, 0));
        check.due("y, back", -4096, paths.told(0, 1));
    }

    private static void everyTurn(Check check) {
        for (int turn = -3; turn <= 3; turn++) {
            SweptPaths paths = train(1, 1);
            paths.start(0, 0, 30);
            check.due("go", 1, paths.go(turn, 1, true));
            check.due("turn " + turn, 30 + turn, paths.told(0, 2));
            paths.start(0, 0, 30);
            paths.go(turn, 1, false);
            check.due("turn " + turn + " back", 30 - turn, paths.told(0, 2));
        }
        SweptPaths paths = train(1, 1);
        check.refusesBeyond("turn", -3, 3, turn -> paths.go(turn, 1, true));
        check.refusesBeyond("turn back", -3, 3, turn -> paths.go(turn, 1, false));
    }

    /** LENGTH 12, STEP 4: askew 3 makes 12, one direction and no rest; then 8, 16 (4 is left), 8, 12. */
    private static void restJustEnough(Check check) {
        headings(check, "12 by 12", train(4, 5, 12), true,
                new int[][] {{3, 1}, {0, 1}, {0, 2}, {0, 2}, {0, 3}, {0, 3}, {0, 3}});
        headings(check, "-12 by 12", train(4, 5, 12), true,
                new int[][] {{-3, 63}, {0, 63}, {0, 62}, {0, 62}, {0, 61}, {0, 61}, {0, 61}});
    }

    /** LENGTH 13: 12 is too little, 24 is one and 11 more, then 11 and 8 are 19: one and 6; then 10, 14. */
    private static void restOneShort(Check check) {
        headings(check, "12 by 13", train(4, 5, 13), true, new int[][] {{3, 0}, {0, 1}, {0, 2}, {0, 2}, {0, 3}});
    }

    /** "rounded to 0": -12 by 13 is none, not one less. */
    private static void restBelowNothing(Check check) {
        headings(check, "-12 by 13", train(4, 5, 13), true, new int[][] {{-3, 0}, {0, 63}, {0, 62}, {0, 62}, {0, 61}});
    }

    /** LENGTH 12: 8, then askew -1: 4, then askew -4: -12. With LENGTH 13 the last is too little; then -28 is -2. */
    private static void restChangesItsSign(Check check) {
        headings(check, "8, 4, -12 by 12", train(4, 5, 12), true, new int[][] {{2, 0}, {-3, 0}, {-3, 63}});
        headings(check, "8, 4, -12, -28 by 13", train(4, 5, 13), true, new int[][] {{2, 0}, {-3, 0}, {-3, 0}, {0, 62}});
        headings(check, "-8, -4, 12 by 12", train(4, 5, 12), true, new int[][] {{-2, 0}, {3, 0}, {3, 1}});
    }

    /** "(back: less)": TURN 3 back makes askew -3, whose 12 is taken away from 0: the trailer turns the other way. */
    private static void restOnTheWayBack(Check check) {
        headings(check, "12 by 12, back", train(4, 5, 12), false, new int[][] {{3, 1}, {0, 2}, {0, 4}});
        headings(check, "-12 by 12, back", train(4, 5, 12), false, new int[][] {{-3, 63}, {0, 62}, {0, 60}});
        headings(check, "12 by 13, back", train(4, 5, 13), false, new int[][] {{3, 0}, {0, 1}});
        headings(check, "-12 by 13, back", train(4, 5, 13), false, new int[][] {{-3, 0}, {0, 63}});
    }

    /** LENGTH 1, STEP 20: askew 3 makes 60 directions; the askew is 7 then, which makes 140, and so 12 over the end. */
    private static void severalDirectionsAtOnce(Check check) {
        SweptPaths paths = train(20, 1, 1);
        headings(check, "60 by 1, 140 by 1", paths, true, new int[][] {{3, 60}, {0, 8}});
        check.due("askew", -5, paths.told(1, 3));
        check.due("greatest", 7, paths.told(1, 4));
        headings(check, "-60 by 1, -140 by 1", train(20, 1, 1), true, new int[][] {{-3, 4}, {0, 56}});
    }

    /** LENGTH 200, STEP 20: askew 3 makes 60, 120, 180, 240: one, and 40 are left; then 80, 120, 160, 200. */
    private static void longestTrailer(Check check) {
        headings(check, "60 by 200", train(20, 1, 200), true,
                new int[][] {{3, 0}, {0, 0}, {0, 0}, {0, 1}, {0, 1}, {0, 1}, {0, 1}, {0, 2}});
    }

    /** "as a number -32 .. 31": 31 stays 31, and one more is -32. */
    private static void askewHalfRound(Check check) {
        // LENGTH 1, STEP 16: askew 2 swings by 32, so the lorry is at 2 and the trailer at 32: askew -30.
        SweptPaths below = train(16, 1, 1);
        below.go(2, 1, true);
        check.due("heading", 32, below.told(1, 2));
        check.due("askew -30", -30, below.told(1, 3));
        // STEP 17: askew 2 swings by 34: 2 less 34 is -32.
        SweptPaths least = train(17, 1, 1);
        least.go(2, 1, true);
        check.due("heading", 34, least.told(1, 2));
        check.due("askew -32", -32, least.told(1, 3));
        check.due("its size", 32, least.told(1, 4));
        // The other way: -2 less -34 would be 32, which is -32 too.
        SweptPaths greatest = train(17, 1, 1);
        greatest.go(-2, 1, true);
        check.due("heading", 30, greatest.told(1, 2));
        check.due("askew never 32", -32, greatest.told(1, 3));
        // STEP 12: askew 3 swings by 36: 3 less 36 is -33, and so 31.
        SweptPaths most = train(12, 1, 1);
        most.go(3, 1, true);
        check.due("heading", 36, most.told(1, 2));
        check.due("askew 31", 31, most.told(1, 3));
        check.due("its size", 31, most.told(1, 4));
    }

    private static void theLorrysLengthIsNoMatter(Check check) {
        for (int length = 1; length <= 200; length += 199) {
            SweptPaths paths = train(4, length, 12);
            paths.go(3, 3, true);
            check.due("heading of the lorry", 9, paths.told(0, 2));
            // 12: one; askew 5 makes 20: one and 8; askew 7 makes 36: three.
            check.due("heading of the trailer", 5, paths.told(1, 2));
            check.due("askew of the lorry", 0, paths.told(0, 3));
            check.due("greatest askew of the lorry", 0, paths.told(0, 4));
        }
    }
}
