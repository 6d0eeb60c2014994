public final class Promise15BestTest {
    public static void main(String[] args) {
        Check check = new Check();
        fewestCells(check);
        withoutAClash(check);
        notJackknifed(check);
        nothingChanges(check);
        noBody(check);
        check.end();
    }

    /** One cell at the start, one more for each step. */
    private static SweptPaths square() {
        SweptPaths paths = new SweptPaths();
        paths.body(1, 0, 4, 4, 4);
        paths.start(4, 4, 0);
        paths.step(8);
        return paths;
    }

    private static void fewestCells(Check check) {
        SweptPaths paths = square();
        check.due("four plans without parts: the least", 0, paths.best());
        paths.part(0, 0, 3, true);
        paths.part(1, 0, 2, false);
        paths.part(2, 0, 1, true);
        paths.part(2, 0, 1, false);
        check.due("the one without parts", 3, paths.best());
        paths.part(3, 0, 60, true);
        check.due("two cells", 2, paths.best());
        paths.part(2, 0, 2, false);
        check.due("of two with four and one with three", 1, paths.best());
        paths.part(1, 0, 1, false);
        check.due("of three with four", 0, paths.best());
        paths.clear(2);
        check.due("one", 2, paths.best());
    }

    private static void withoutAClash(Check check) {
        SweptPaths paths = square();
        paths.part(0, 0, 1, true);
        paths.part(1, 0, 4, false);
        paths.part(2, 0, 2, false);
        paths.part(3, 0, 3, true);
        check.due("no pole", 0, paths.best());
        paths.pole(12, 4);
        check.due("a pole ahead", 2, paths.best());
        paths.pole(-16, 4);
        check.due("a pole behind, struck by the last step", SweptPaths.NONE, paths.best());
        paths.clear(3);
        check.due("one that stands", 3, paths.best());
        paths.pole(4, 4);
        check.due("a pole at the start", SweptPaths.NONE, paths.best());
        check.due("that the live one has not struck yet", SweptPaths.NONE, paths.clash(0));
    }

    /** Plan 0 jackknifes in its very last step, plan 1 on the way, plan 2 not at all. */
    private static void notJackknifed(Check check) {
        SweptPaths paths = new SweptPaths();
        paths.body(1, 0, 4, 4, 4);
        paths.body(200, 0, 0, 0, 1);
        paths.step(1);
        paths.start(0, 0, 0);
        paths.part(0, 3, 9, true);
        paths.part(1, 3, 12, true);
        paths.part(3, -3, 60, false);
        paths.part(2, 3, 8, true);
        paths.part(2, 0, 60, true);
        check.due("it sweeps more, but gets through", true, paths.sweeps(2) > paths.sweeps(0));
        check.due("best", 2, paths.best());
        paths.part(2, 3, 60, true);
        check.due("none", SweptPaths.NONE, paths.best());
        paths.clear(1);
        check.due("the empty one", 1, paths.best());
    }

    private static void nothingChanges(Check check) {
        SweptPaths paths = square();
        paths.body(50, 2, 4, 4, 4);
        paths.pole(60, 4);
        paths.part(0, 3, 60, true);
        paths.part(1, -2, 20, false);
        paths.go(2, 9, true);
        String before = Snapshot.of(paths, 2);
        int best = paths.best();
        check.due("asked again", best, paths.best());
        check.due("nothing else changes", true, before.equals(Snapshot.of(paths, 2)));
        check.due("the steps go on", 10, paths.go(0, 1, true));
        int afterwards = paths.best();
        check.due("from the start, wherever it stands", best, afterwards);
        for (int n = 0; n < Ways.COUNT; n++) {
            int way = n;
            Twins.untouched(check, "best behind " + Ways.name(n), asked -> Ways.go(asked, way), asked -> asked.best());
        }
    }

    private static void noBody(Check check) {
        SweptPaths paths = new SweptPaths();
        check.state("no body", () -> paths.best());
        paths.part(0, 0, 1, true);
        check.state("no body, but a plan", () -> paths.best());
        paths.body(1, 0, 1, 1, 1);
        check.due("a body", 0, paths.best());
    }
}
