public final class Promise08CornerTest {
    public static void main(String[] args) {
        Check check = new Check();
        headings(check);
        ofATrailer(check);
        extremes(check);
        wrongInputs(check);
        check.end();
    }

    private static void corners(Check check, SweptPaths paths, int body, int[][] due) {
        for (int k = 0; k <= 3; k++) {
            check.due("x of corner " + k, due[k][0], paths.corner(body, k, 0));
            check.due("y of corner " + k, due[k][1], paths.corner(body, k, 1));
        }
    }

    private static void headings(Check check) {
        SweptPaths paths = new SweptPaths();
        paths.body(5, 0, 10, 4, 3);
        corners(check, paths, 0, new int[][] {{40960, 12288}, {40960, -12288}, {-16384, -12288}, {-16384, 12288}});
        paths.start(1, 2, 16);
        corners(check, paths, 0, new int[][] {{-8192, 49152}, {16384, 49152}, {16384, -8192}, {-8192, -8192}});
        paths.start(0, 0, 3);
        corners(check, paths, 0, new int[][] {
            {39200 - 3567, 11890 + 11760}, {39200 + 3567, 11890 - 11760},
            {-15680 + 3567, -4756 - 11760}, {-15680 - 3567, -4756 + 11760}
        });
    }

    private static void ofATrailer(Check check) {
        SweptPaths paths = new SweptPaths();
        paths.body(5, 1, 10, 4, 3);
        paths.body(9, 0, 2, 6, 5);
        paths.start(0, 0, 32);
        corners(check, paths, 1, new int[][] {
            {8 * 4096, -5 * 4096}, {8 * 4096, 5 * 4096}, {16 * 4096, 5 * 4096}, {16 * 4096, -5 * 4096}
        });
        paths.go(0, 1, true);
        check.due("the corner moves along", 4 * 4096, paths.corner(1, 0, 0));
    }

    private static void extremes(Check check) {
        SweptPaths paths = new SweptPaths();
        paths.body(200, 200, 60, 60, 20);
        paths.body(200, 200, 60, 60, 20);
        paths.body(200, 200, 0, 0, 1);
        paths.start(-1000, 1000, 0);
        check.due("the greatest front", -940 * 4096, paths.corner(0, 0, 0));
        check.due("the greatest rear", -1060 * 4096, paths.corner(0, 2, 0));
        check.due("the greatest half", 1020 * 4096, paths.corner(0, 3, 1));
        check.due("no front, no rear", paths.corner(2, 1, 0), paths.corner(2, 2, 0));
        check.due("the third body", -1800 * 4096, paths.corner(2, 0, 0));
    }

    private static void wrongInputs(Check check) {
        SweptPaths paths = new SweptPaths();
        check.refusesBeyond("body of none", 0, -1, n -> paths.corner(n, 0, 0));
        paths.body(5, 0, 10, 4, 3);
        check.refusesBeyond("body", 0, 0, n -> paths.corner(n, 0, 0));
        check.refusesBeyond("corner", 0, 3, n -> paths.corner(0, n, 1));
        check.refusesBeyond("axis", 0, 1, n -> paths.corner(0, 0, n));
    }
}
