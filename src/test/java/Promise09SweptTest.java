public final class Promise09SweptTest {
    public static void main(String[] args) {
        Check check = new Check();
        edgesOfTheRectangle(check);
        behindSteps(check);
        allBodies(check);
        borderOfTheCells(check);
        greatestBody(check);
        check.end();
    }

    private static SweptPaths square(int x, int y, int heading) {
        SweptPaths paths = new SweptPaths();
        paths.body(1, 0, 4, 4, 4);
        paths.start(x, y, heading);
        return paths;
    }

    private static void edgesOfTheRectangle(Check check) {
        for (int heading = 0; heading < 64; heading += 16) {
            check.due("on a middle", 1, square(4, 4, heading).swept());
            check.due("middles on both ends", 2, square(8, 4, heading).swept());
            check.due("middles on both sides", 2, square(4, 8, heading).swept());
            check.due("middles on all corners", 4, square(8, 8, heading).swept());
            check.due("one unit off", 1, square(7, 9, heading).swept());
        }
        SweptPaths thin = new SweptPaths();
        thin.body(1, 0, 0, 0, 1);
        check.due("no middle in it", 0, thin.swept());
        thin.start(5, 12, 16);
        check.due("a middle on its side", 1, thin.swept());
    }

    private static void behindSteps(Check check) {
        SweptPaths paths = square(4, 4, 0);
        paths.step(8);
        check.due("at the start", 1, paths.swept());
        paths.go(0, 3, true);
        check.due("behind 3 steps", 4, paths.swept());
        paths.go(0, 3, false);
        check.due("cells count once", 4, paths.swept());
        paths.go(0, 2, false);
        check.due("beyond the start", 6, paths.swept());
        paths.step(20);
        paths.go(0, 4, true);
        check.due("only at the ends of steps: 4, 24 (two), 44, 64 (two), 84", 7, paths.swept());
    }

    private static void allBodies(Check check) {
        SweptPaths paths = square(4, 4, 0);
        paths.body(16, 0, 4, 4, 4);
        check.due("lorry and trailer", 2, paths.swept());
        paths.body(24, 0, 4, 4, 4);
        check.due("both trailers", 3, paths.swept());
        paths.step(16);
        paths.go(0, 1, true);
        check.due("a cell of two bodies counts once", 5, paths.swept());
    }

    private static void borderOfTheCells(Check check) {
        check.due("the last cell", 1, square(252, 252, 0).swept());
        check.due("the first cell", 1, square(-252, -252, 0).swept());
        check.due("half outside", 1, square(256, 252, 0).swept());
        check.due("outside to the right", 0, square(257, 4, 0).swept());
        check.due("outside to the left", 0, square(-257, 4, 0).swept());
        check.due("outside above", 0, square(4, 260, 0).swept());
        check.due("outside below", 0, square(4, -260, 0).swept());
        check.due("far outside", 0, square(1000, -1000, 9).swept());
    }

    /** From -56 to 64 by -16 to 24 at (4, 4): middles -52 .. 60, of which there are 15, by -12 .. 20, which are 5. */
    private static void greatestBody(Check check) {
        SweptPaths paths = new SweptPaths();
        paths.body(200, 200, 60, 60, 20);
        paths.start(4, 4, 0);
        check.due("along x", 75, paths.swept());
        paths.start(4, 4, 48);
        check.due("along y", 75, paths.swept());
    }
}
