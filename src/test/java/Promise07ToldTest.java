public final class Promise07ToldTest {
    public static void main(String[] args) {
        Check check = new Check();
        all(check);
        greatestIsKept(check);
        halfRound(check);
        wrongInputs(check);
        check.end();
    }

    private static void all(Check check) {
        SweptPaths paths = new SweptPaths();
        paths.body(5, 2, 1, 1, 1);
        paths.body(30, 0, 1, 1, 1);
        paths.go(3, 2, true);
        int[][] due = {
            {16384 + 4 * 3920, 4 * 1189, 6, 0, 0},
            {16384 + 4 * 3920 - 2 * 3406 - 30 * 4076, 4 * 1189 - 2 * 2276 - 30 * 401, 1, 5, 5}
        };
        for (int b = 0; b <= 1; b++) {
            for (int what = 0; what <= 4; what++) {
                check.due("told(" + b + ", " + what + ")", due[b][what], paths.told(b, what));
            }
        }
    }

    /** The askew of -5 is told with its sign, its size is the greatest; later ones are less. */
    private static void greatestIsKept(Check check) {
        SweptPaths paths = new SweptPaths();
        paths.body(5, 2, 1, 1, 1);
        paths.body(30, 0, 1, 1, 1);
        paths.go(-3, 2, true);
        check.due("askew", -5, paths.told(1, 3));
        check.due("its size", 5, paths.told(1, 4));
        paths.go(0, 60, true);
        check.due("askew comes down", true, paths.told(1, 3) > -5);
        check.due("the greatest is kept", 5, paths.told(1, 4));
        check.due("the lorry has none", 0, paths.told(0, 3));
        check.due("the lorry has none", 0, paths.told(0, 4));
        paths.step(4);
        check.due("anew", 0, paths.told(1, 4));
    }

    /** STEP 5, LENGTH 1: askew 2 swings by 10, then -8 by -40; 2 less 34 is -32, never 32. */
    private static void halfRound(Check check) {
        SweptPaths paths = new SweptPaths();
        paths.body(1, 0, 1, 1, 1);
        paths.body(1, 0, 1, 1, 1);
        paths.step(5);
        paths.go(2, 1, true);
        check.due("heading", 10, paths.told(1, 2));
        check.due("askew", -8, paths.told(1, 3));
        paths.go(0, 1, true);
        check.due("heading", 34, paths.told(1, 2));
        check.due("askew", -32, paths.told(1, 3));
        check.due("its size", 32, paths.told(1, 4));
        check.due("stuck", true, paths.isStuck());
    }

    private static void wrongInputs(Check check) {
        SweptPaths paths = new SweptPaths();
        check.refusesBeyond("body of none", 0, -1, n -> paths.told(n, 0));
        paths.body(1, 0, 1, 1, 1);
        check.refusesBeyond("body of one", 0, 0, n -> paths.told(n, 0));
        check.refusesBeyond("what", 0, 4, n -> paths.told(0, n));
        paths.body(1, 0, 1, 1, 1);
        check.refusesBeyond("body of two", 0, 1, n -> paths.told(n, 0));
        paths.body(1, 0, 1, 1, 1);
        check.refusesBeyond("body of three", 0, 2, n -> paths.told(n, 0));
        check.due("the third body", -2 * 4096, paths.told(2, 0));
    }
}
