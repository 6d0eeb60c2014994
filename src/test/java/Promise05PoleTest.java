public final class Promise05PoleTest {
    public static void main(String[] args) {
        Check check = new Check();
        numbersAndBounds(check);
        struckFromTheNextStepOn(check);
        edgesOfTheRectangle(check);
        farPoles(check);
        check.end();
    }

    private static void numbersAndBounds(Check check) {
        SweptPaths paths = new SweptPaths();
        paths.body(1, 0, 4, 4, 4);
        check.refusesBeyond("x", -1000, 1000, n -> paths.pole(n, 0));
        check.refusesBeyond("y", -1000, 1000, n -> paths.pole(0, n));
        for (int p = 0; p < 20; p++) {
            check.due("pole " + p, p, paths.pole(p % 2 == 0 ? 1000 : -1000, p % 3 == 0 ? 1000 : -1000));
        }
        check.state("a 21st pole", () -> paths.pole(0, 0));
        check.argument("a 21st pole out of bounds", () -> paths.pole(1001, 0));
        check.argument("a 21st pole out of bounds", () -> paths.pole(0, -1001));
        paths.go(0, 1, true);
        check.due("a refused pole is not struck", SweptPaths.NONE, paths.clash(0));
    }

    private static void struckFromTheNextStepOn(Check check) {
        SweptPaths paths = new SweptPaths();
        paths.body(1, 0, 10, 10, 10);
        paths.go(0, 2, true);
        paths.pole(8, 0);
        check.due("a pole told where it stands", SweptPaths.NONE, paths.clash(0));
        check.due("a pole begins nothing anew", 3, paths.go(0, 1, true));
        check.due("behind the next step", 3, paths.clash(0));
        check.due("the pole", 0, paths.clash(2));
        paths.pole(12, 0);
        paths.go(0, 1, true);
        check.due("the clash stays the first one", 0, paths.clash(2));
        check.due("the clash stays the first one", 3, paths.clash(0));
    }

    /** The rectangle of heading 16 at (50, 60): x 47 .. 53, y 55 .. 67. */
    private static void edgesOfTheRectangle(Check check) {
        int[][] places = {
            {47, 55, 1}, {53, 55, 1}, {47, 67, 1}, {53, 67, 1}, {50, 60, 1},
            {46, 60, 0}, {54, 60, 0}, {50, 54, 0}, {50, 68, 0}, {46, 54, 0}, {54, 68, 0}
        };
        for (int[] place : places) {
            SweptPaths paths = new SweptPaths();
            paths.body(1, 0, 7, 5, 3);
            paths.pole(place[0], place[1]);
            paths.start(50, 60, 16);
            check.due("pole at " + place[0] + ", " + place[1], place[2] == 1, paths.clash(0) == 0);
        }
    }

    private static void farPoles(Check check) {
        SweptPaths paths = new SweptPaths();
        paths.body(1, 0, 0, 0, 1);
        paths.pole(1000, 1000);
        paths.start(1000, 1000, 40);
        check.due("a pole at the farthest place", 0, paths.clash(2));
        paths.pole(-1000, -1000);
        paths.start(-1000, -1000, 40);
        check.due("a pole at the other farthest place", 1, paths.clash(2));
        paths.step(20);
        paths.start(1000, 999, 0);
        paths.go(0, 200, true);
        check.due("the clash at the start", 0, paths.clash(0));
    }
}
