public final class Promise03StartTest {
    public static void main(String[] args) {
        Check check = new Check();
        edges(check);
        bounds(check);
        beginsAnew(check);
        keepsPolesPlansAndStep(check);
        check.end();
    }

    private static void edges(Check check) {
        SweptPaths paths = new SweptPaths();
        paths.body(1, 0, 0, 0, 1);
        paths.body(2, 0, 0, 0, 1);
        int[][] starts = {{-1000, 1000, 63}, {1000, -1000, 0}, {0, 0, 32}};
        for (int[] start : starts) {
            paths.start(start[0], start[1], start[2]);
            check.due("x of the start", start[0] * 4096, paths.told(0, 0));
            check.due("y of the start", start[1] * 4096, paths.told(0, 1));
            check.due("heading of the lorry", start[2], paths.told(0, 2));
            check.due("heading of the trailer", start[2], paths.told(1, 2));
            check.due("askew of the trailer", 0, paths.told(1, 3));
        }
    }

    private static void bounds(Check check) {
        SweptPaths paths = new SweptPaths();
        paths.body(1, 0, 4, 4, 4);
        paths.start(12, 20, 5);
        paths.go(1, 3, false);
        String before = Snapshot.withPlans(paths, 1);
        check.refusesBeyond("x", -1000, 1000, n -> paths.start(n, 0, 0));
        check.refusesBeyond("y", -1000, 1000, n -> paths.start(0, n, 0));
        check.refusesBeyond("heading", 0, 63, n -> paths.start(0, 0, n));
        check.due("refused starts change nothing", true, before.equals(Snapshot.withPlans(paths, 1)));
        check.due("the steps go on", 4, paths.go(1, 1, false));
    }

    private static void beginsAnew(Check check) {
        SweptPaths paths = new SweptPaths();
        paths.body(1, 0, 4, 4, 4);
        paths.body(200, 0, 0, 0, 1);
        paths.step(1);
        paths.pole(4, 4);
        paths.go(3, 100, true);
        check.due("it is jackknifed", true, paths.isStuck());
        check.due("the greatest askew", 27, paths.told(1, 4));
        paths.start(900, 900, 0);
        check.due("isStuck anew", false, paths.isStuck());
        check.due("the greatest askew anew", 0, paths.told(1, 4));
        check.due("swept anew", 0, paths.swept());
        check.due("clash anew", SweptPaths.NONE, paths.clash(0));
        check.due("steps anew", 8, paths.go(3, 8, true));
        check.due("rest anew", 0, paths.told(1, 2));
        paths.start(4, 4, 0);
        check.due("clash at the start: step", 0, paths.clash(0));
        check.due("clash at the start: body", 0, paths.clash(1));
        check.due("clash at the start: pole", 0, paths.clash(2));
    }

    private static void keepsPolesPlansAndStep(Check check) {
        SweptPaths paths = new SweptPaths();
        paths.step(9);
        paths.pole(1, 1);
        paths.part(2, 0, 1, true);
        paths.start(10, 10, 10);
        check.due("the step is kept", 9, paths.step(3));
        check.due("the pole is kept", 1, paths.pole(2, 2));
        check.due("the part is kept", 2, paths.part(2, 0, 1, true));
        paths.body(1, 0, 0, 0, 1);
        check.due("a start told before the body", 10, paths.told(0, 2));
    }
}
