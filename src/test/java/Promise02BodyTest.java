public final class Promise02BodyTest {
    public static void main(String[] args) {
        Check check = new Check();
        numbersInOrder(check);
        bounds(check);
        fourthBody(check);
        beginsAnew(check);
        placesOfTrailers(check);
        check.end();
    }

    private static void numbersInOrder(Check check) {
        SweptPaths paths = new SweptPaths();
        check.due("the least body", 0, paths.body(1, 0, 0, 0, 1));
        check.due("the greatest body", 1, paths.body(200, 200, 60, 60, 20));
        check.due("the third body", 2, paths.body(10, 2, 9, 9, 2));
    }

    private static void bounds(Check check) {
        SweptPaths paths = new SweptPaths();
        check.refusesBeyond("length", 1, 200, n -> paths.body(n, 0, 0, 0, 1));
        check.refusesBeyond("hitch", 0, 200, n -> paths.body(1, n, 0, 0, 1));
        check.refusesBeyond("front", 0, 60, n -> paths.body(1, 0, n, 0, 1));
        check.refusesBeyond("rear", 0, 60, n -> paths.body(1, 0, 0, n, 1));
        check.refusesBeyond("half", 1, 20, n -> paths.body(1, 0, 0, 0, n));
        check.argument("there is still no body", () -> paths.told(0, 0));
        check.due("the first body behind refused ones", 0, paths.body(1, 0, 0, 0, 1));
    }

    private static void fourthBody(Check check) {
        SweptPaths paths = new SweptPaths();
        paths.body(5, 3, 4, 4, 4);
        paths.body(8, 2, 4, 4, 4);
        paths.body(9, 1, 4, 4, 4);
        paths.go(2, 7, true);
        String before = Snapshot.withPlans(paths, 3);
        check.state("a fourth body", () -> paths.body(1, 0, 0, 0, 1));
        check.argument("a fourth body out of bounds", () -> paths.body(0, 0, 0, 0, 1));
        check.argument("a fourth body out of bounds", () -> paths.body(1, 0, 0, 0, 21));
        check.due("refused bodies change nothing", true, before.equals(Snapshot.withPlans(paths, 3)));
        check.due("the steps go on", 8, paths.go(0, 1, true));
    }

    private static void beginsAnew(Check check) {
        SweptPaths paths = new SweptPaths();
        paths.start(4, 4, 0);
        paths.body(1, 0, 4, 4, 4);
        paths.pole(12, 4);
        check.due("swept at the start", 1, paths.swept());
        paths.go(3, 5, true);
        check.due("clash behind a step", true, paths.clash(0) > 0);
        check.argument("a body out of bounds", () -> paths.body(1, 0, 0, 0, 0));
        check.due("it does not begin anew", 15, paths.told(0, 2));
        paths.body(6, 0, 0, 0, 1);
        check.due("x anew", 4 * 4096, paths.told(0, 0));
        check.due("y anew", 4 * 4096, paths.told(0, 1));
        check.due("heading anew", 0, paths.told(0, 2));
        check.due("clash anew", SweptPaths.NONE, paths.clash(0));
        check.due("swept anew", 1, paths.swept());
        check.due("steps anew", 2, paths.go(0, 2, true));
    }

    private static void placesOfTrailers(Check check) {
        SweptPaths paths = new SweptPaths();
        paths.start(100, -50, 3);
        paths.body(150, 7, 1, 1, 1);
        paths.body(30, 11, 1, 1, 1);
        paths.body(20, 199, 1, 1, 1);
        // The heading 3 has DX 3920 and DY 1189; the hitch is that of the body before, the length its own.
        check.due("x of the lorry", 409600, paths.told(0, 0));
        check.due("y of the lorry", -204800, paths.told(0, 1));
        check.due("x of trailer 1", 409600 - 37 * 3920, paths.told(1, 0));
        check.due("y of trailer 1", -204800 - 37 * 1189, paths.told(1, 1));
        check.due("x of trailer 2", 409600 - 68 * 3920, paths.told(2, 0));
        check.due("y of trailer 2", -204800 - 68 * 1189, paths.told(2, 1));
    }
}
