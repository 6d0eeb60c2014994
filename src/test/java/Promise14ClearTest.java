public final class Promise14ClearTest {
    public static void main(String[] args) {
        Check check = new Check();
        howManyItHad(check);
        theOthersStay(check);
        fullAgain(check);
        check.end();
    }

    private static void howManyItHad(Check check) {
        SweptPaths paths = new SweptPaths();
        for (int parts = 0; parts <= 6; parts++) {
            for (int n = 0; n < parts; n++) {
                paths.part(3, 0, 1, true);
            }
            check.due("clear of " + parts, parts, paths.clear(3));
            check.due("clear again", 0, paths.clear(3));
        }
        check.refusesBeyond("plan", 0, 3, n -> paths.clear(n));
    }

    private static void theOthersStay(Check check) {
        SweptPaths paths = new SweptPaths();
        paths.part(0, 0, 1, true);
        paths.part(1, 0, 2, true);
        paths.part(1, 0, 3, true);
        paths.part(2, 0, 4, true);
        check.refusesBeyond("plan", 0, 3, n -> paths.clear(n));
        check.due("clear(1)", 2, paths.clear(1));
        check.due("plan 0 stays", 1, paths.clear(0));
        check.due("plan 2 stays", 1, paths.clear(2));
    }

    private static void fullAgain(Check check) {
        SweptPaths paths = new SweptPaths();
        paths.body(1, 0, 4, 4, 4);
        paths.start(4, 4, 0);
        paths.step(8);
        for (int n = 0; n < 6; n++) {
            paths.part(0, 0, 2, true);
        }
        check.due("cells of six parts", 13, paths.sweeps(0));
        paths.go(0, 4, true);
        paths.clear(0);
        check.due("a plan without parts ends where it begins", 1, paths.sweeps(0));
        check.due("nothing else changes", 5, paths.swept());
        for (int n = 1; n <= 6; n++) {
            check.due("parts again", n, paths.part(0, 0, 1, false));
        }
        check.due("cells of the new parts", 7, paths.sweeps(0));
        check.state("a seventh", () -> paths.part(0, 0, 1, false));
    }
}
