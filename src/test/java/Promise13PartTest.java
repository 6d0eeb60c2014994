public final class Promise13PartTest {
    public static void main(String[] args) {
        Check check = new Check();
        sixParts(check);
        wrongInputs(check);
        whatIsGone(check);
        check.end();
    }

    private static void sixParts(Check check) {
        SweptPaths paths = new SweptPaths();
        for (int plan = 0; plan <= 3; plan++) {
            int chosen = plan;
            for (int n = 1; n <= 6; n++) {
                check.due("part " + n + " of plan " + plan, n, paths.part(plan, n % 2 == 0 ? 3 : -3, n * 10, n > 3));
            }
            check.state("a seventh part", () -> paths.part(chosen, 0, 1, true));
            check.argument("a seventh part out of bounds", () -> paths.part(chosen, 4, 1, true));
            check.argument("a seventh part out of bounds", () -> paths.part(chosen, 0, 0, true));
            check.due("it has six", 6, paths.clear(plan));
        }
    }

    private static void wrongInputs(Check check) {
        SweptPaths paths = new SweptPaths();
        check.refusesBeyond("plan", 0, 3, n -> paths.part(n, 0, 1, true));
        check.refusesBeyond("turn", -3, 3, n -> paths.part(0, n, 1, true));
        check.refusesBeyond("steps", 1, 60, n -> paths.part(0, 0, n, true));
        check.due("no part came of it", 1, paths.part(0, 0, 1, true));
    }

    /** Six parts of 8 units a step: 1 cell at the start and one more for each new place. */
    private static void whatIsGone(Check check) {
        SweptPaths paths = new SweptPaths();
        paths.body(1, 0, 4, 4, 4);
        paths.start(4, 4, 0);
        paths.step(8);
        paths.go(0, 2, true);
        int[] steps = {3, 5, 1, 6, 3, 3};
        boolean[] forwards = {true, false, false, true, true, true};
        // The place in cells: 3, -2, -3, 3, 6, 9; the farthest so far on both sides counts.
        int[] due = {4, 6, 7, 7, 10, 13};
        for (int n = 0; n < due.length; n++) {
            paths.part(1, 0, steps[n], forwards[n]);
            check.due("cells of " + (n + 1) + " parts", due[n], paths.sweeps(1));
        }
        check.due("a part changes nothing of what is swept", 3, paths.swept());
        check.due("a part makes no step", 3, paths.go(0, 1, true));
    }
}
