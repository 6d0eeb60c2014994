public final class Promise01NewObjectTest {
    public static void main(String[] args) {
        Check check = new Check();
        noBodies(check);
        firstOfEachKind(check);
        objectsAreApart(check);
        check.end();
    }

    private static void noBodies(Check check) {
        SweptPaths paths = new SweptPaths();
        for (int b = 0; b <= 2; b++) {
            int body = b;
            check.argument("told of a new object", () -> paths.told(body, 0));
            check.argument("corner of a new object", () -> paths.corner(body, 0, 0));
        }
        check.state("go without a body", () -> paths.go(0, 1, true));
        check.state("best without a body", () -> paths.best());
        check.state("sweeps without a body", () -> paths.sweeps(0));
        check.due("swept()", 0, paths.swept());
        for (int i = -32; i <= 31; i++) {
            check.due("cell of a new object", false, paths.cell(i, i));
            check.due("cell of a new object", false, paths.cell(i, -1 - i));
        }
        for (int what = 0; what <= 2; what++) {
            check.due("clash of a new object", SweptPaths.NONE, paths.clash(what));
        }
        check.due("isStuck()", false, paths.isStuck());
        for (int plan = 0; plan <= 3; plan++) {
            check.due("clear of a new object", 0, paths.clear(plan));
        }
        check.due("NONE", -1, SweptPaths.NONE);
    }

    private static void firstOfEachKind(Check check) {
        SweptPaths paths = new SweptPaths();
        check.due("the first pole", 0, paths.pole(0, 0));
        check.due("the first part", 1, paths.part(0, 0, 1, true));
        check.due("the step at first", 4, paths.step(4));
        check.due("the first body", 0, paths.body(1, 0, 0, 0, 1));
        check.due("x at first", 0, paths.told(0, 0));
        check.due("y at first", 0, paths.told(0, 1));
        check.due("heading at first", 0, paths.told(0, 2));
    }

    private static void objectsAreApart(Check check) {
        SweptPaths one = new SweptPaths();
        SweptPaths other = new SweptPaths();
        one.body(1, 0, 4, 4, 4);
        one.pole(0, 0);
        one.part(0, 0, 1, true);
        one.step(7);
        one.start(4, 4, 9);
        check.due("the other's swept()", 0, other.swept());
        check.due("the other's clear", 0, other.clear(0));
        check.due("the other's step", 4, other.step(1));
        check.due("the other's pole", 0, other.pole(1, 1));
        check.due("the other's body", 0, other.body(1, 0, 0, 0, 1));
        check.due("the other's heading", 0, other.told(0, 2));
    }
}
