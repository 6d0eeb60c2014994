public final class Promise04StepTest {
    public static void main(String[] args) {
        Check check = new Check();
        answersWhatItWas(check);
        bounds(check);
        beginsAnew(check);
        itsLengthIsGone(check);
        check.end();
    }

    private static void answersWhatItWas(Check check) {
        SweptPaths paths = new SweptPaths();
        check.due("the step at first", 4, paths.step(1));
        check.due("the least step", 1, paths.step(20));
        check.due("the greatest step", 20, paths.step(20));
        check.due("the same step again", 20, paths.step(7));
    }

    private static void bounds(Check check) {
        SweptPaths paths = new SweptPaths();
        paths.body(1, 0, 4, 4, 4);
        paths.go(2, 3, true);
        String before = Snapshot.withPlans(paths, 1);
        check.refusesBeyond("step", 1, 20, n -> paths.step(n));
        check.due("refused steps change nothing", true, before.equals(Snapshot.withPlans(paths, 1)));
        check.due("the steps go on", 4, paths.go(2, 1, true));
        check.due("the step is as it was", 4, paths.step(4));
    }

    private static void beginsAnew(Check check) {
        SweptPaths paths = new SweptPaths();
        paths.start(4, 4, 16);
        paths.body(1, 0, 4, 4, 4);
        paths.go(1, 10, true);
        paths.pole(4, 4);
        check.due("the same step is told", 4, paths.step(4));
        check.due("heading anew", 16, paths.told(0, 2));
        check.due("y anew", 4 * 4096, paths.told(0, 1));
        check.due("swept anew", 1, paths.swept());
        check.due("clash at the start", 0, paths.clash(0));
        check.due("steps anew", 1, paths.go(0, 1, true));
    }

    private static void itsLengthIsGone(Check check) {
        SweptPaths paths = new SweptPaths();
        paths.body(1, 0, 0, 0, 1);
        for (int length = 1; length <= 20; length++) {
            paths.step(length);
            paths.go(0, 3, true);
            check.due("x behind 3 steps of " + length, 3 * length * 4096, paths.told(0, 0));
            paths.go(0, 5, false);
            check.due("x behind 5 steps back of " + length, -2 * length * 4096, paths.told(0, 0));
        }
    }
}
