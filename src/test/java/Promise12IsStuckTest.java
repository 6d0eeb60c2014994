public final class Promise12IsStuckTest {
    public static void main(String[] args) {
        Check check = new Check();
        aloneNever(check);
        beyond24(check);
        theSecondTrailer(check);
        withTheNewHeadings(check);
        check.end();
    }

    private static void aloneNever(Check check) {
        SweptPaths paths = new SweptPaths();
        check.due("no body", false, paths.isStuck());
        paths.body(1, 0, 1, 1, 1);
        check.due("all steps are made", 200, paths.go(3, 200, true));
        check.due("a lorry alone", false, paths.isStuck());
    }

    private static void beyond24(Check check) {
        for (int turn = -3; turn <= 3; turn += 6) {
            SweptPaths paths = new SweptPaths();
            paths.body(1, 0, 1, 1, 1);
            paths.body(200, 0, 1, 1, 1);
            paths.step(1);
            paths.go(turn, 8, true);
            check.due("askew", 8 * turn, paths.told(1, 3));
            check.due("24 is not beyond", false, paths.isStuck());
            paths.go(turn / 3, 1, true);
            check.due("25 is", true, paths.isStuck());
            check.due("askew", 25 * turn / 3, paths.told(1, 3));
            check.argument("a refused start", () -> paths.start(0, 0, 64));
            check.due("it stays so", true, paths.isStuck());
            paths.pole(0, 0);
            check.due("a pole does not free it", true, paths.isStuck());
            paths.body(3, 0, 1, 1, 1);
            check.due("a body does", false, paths.isStuck());
        }
    }

    /** The first trailer follows the lorry at once, the second hardly at all. */
    private static void theSecondTrailer(Check check) {
        SweptPaths paths = new SweptPaths();
        paths.body(1, 0, 1, 1, 1);
        paths.body(1, 0, 1, 1, 1);
        paths.body(200, 0, 1, 1, 1);
        paths.step(1);
        check.due("steps made", 9, paths.go(3, 200, true));
        check.due("the first trailer is straight", 0, paths.told(1, 3));
        check.due("the second is askew", 27, paths.told(2, 3));
        check.due("stuck", true, paths.isStuck());
        paths.step(2);
        check.due("freed by the step", false, paths.isStuck());
    }

    /** The rest is 108 behind eight steps; the ninth has askew 25, which makes it 133, one of 109: 24 is left. */
    private static void withTheNewHeadings(Check check) {
        SweptPaths paths = new SweptPaths();
        paths.body(1, 0, 1, 1, 1);
        paths.body(109, 0, 1, 1, 1);
        paths.step(1);
        check.due("eight steps", 8, paths.go(3, 8, true));
        check.due("askew 24", 24, paths.told(1, 3));
        check.due("the ninth: askew 25 swings by one", 9, paths.go(1, 1, true));
        check.due("askew 24 again", 24, paths.told(1, 3));
        check.due("not stuck", false, paths.isStuck());
    }
}
