public final class Promise16SweepsTest {
    public static void main(String[] args) {
        Check check = new Check();
        fromTheStartOn(check);
        asFarAsItCanBeGone(check);
        longestPlan(check);
        nothingChanges(check);
        wrongInputs(check);
        check.end();
    }

    private static void fromTheStartOn(Check check) {
        SweptPaths paths = new SweptPaths();
        paths.body(1, 0, 4, 4, 4);
        paths.start(4, 4, 0);
        paths.step(8);
        paths.part(0, 0, 3, true);
        paths.part(1, 0, 5, false);
        paths.go(0, 10, true);
        String before = Snapshot.of(paths, 1);
        for (int n = 0; n < 2; n++) {
            check.due("sweeps(0)", 4, paths.sweeps(0));
            check.due("sweeps(1)", 6, paths.sweeps(1));
            check.due("sweeps(2) without parts", 1, paths.sweeps(2));
            check.due("sweeps(3) without parts", 1, paths.sweeps(3));
        }
        check.due("nothing else changes", true, before.equals(Snapshot.of(paths, 1)));
        paths.pole(12, 4);
        paths.pole(4, 4);
        check.due("clash or not", 4, paths.sweeps(0));
        check.due("clash or not", 6, paths.sweeps(1));
        paths.start(252, 4, 0);
        check.due("out of the cells", 1, paths.sweeps(0));
        check.due("from the new start", 6, paths.sweeps(1));
        paths.start(1000, 1000, 0);
        check.due("none at all", 0, paths.sweeps(1));
    }

    /** Parts behind the step that jackknifes it add nothing. */
    private static void asFarAsItCanBeGone(Check check) {
        SweptPaths paths = new SweptPaths();
        paths.body(1, 0, 4, 4, 4);
        paths.body(200, 0, 4, 4, 4);
        paths.step(5);
        paths.go(3, 200, true);
        int swept = paths.swept();
        check.due("stuck", true, paths.isStuck());
        paths.part(0, 3, 60, true);
        paths.part(0, 0, 60, true);
        check.due("as far as the live one came", swept, paths.sweeps(0));
        paths.part(1, 3, 4, true);
        check.due("less than that", true, paths.sweeps(1) < swept);
        check.due("it is still stuck", true, paths.isStuck());
    }

    /** 360 steps of 1 unit from -180 on cover -184 .. 184: the middles -180 .. 180, of which there are 46. */
    private static void longestPlan(Check check) {
        SweptPaths paths = new SweptPaths();
        paths.body(1, 0, 4, 4, 4);
        paths.start(-180, 4, 0);
        paths.step(1);
        for (int n = 0; n < 6; n++) {
            paths.part(2, 0, 60, true);
        }
        check.due("all six parts", 46, paths.sweeps(2));
        for (int n = 0; n < 20; n++) {
            paths.go(0, 200, n % 2 == 0);
        }
        check.due("4000 live steps do not shorten a plan", 46, paths.sweeps(2));
    }

    private static void nothingChanges(Check check) {
        for (int n = 0; n < Ways.COUNT; n++) {
            int way = n;
            for (int p = 0; p <= 3; p++) {
                int plan = p;
                Twins.untouched(check, "sweeps(" + p + ") behind " + Ways.name(n), asked -> Ways.go(asked, way),
                        asked -> asked.sweeps(plan));
            }
        }
    }

    private static void wrongInputs(Check check) {
        SweptPaths paths = new SweptPaths();
        check.state("no body", () -> paths.sweeps(3));
        check.refusesBeyond("plan without a body", 0, 3, n -> paths.sweeps(n));
        paths.body(1, 0, 4, 4, 4);
        check.refusesBeyond("plan", 0, 3, n -> paths.sweeps(n));
    }
}
