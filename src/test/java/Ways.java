/** Ways that leave an object with a body in the states that matter; there are plans with and without parts. */
final class Ways {
    static final int NO_STEP = 0;
    static final int CLASH = 1;
    static final int JACKKNIFE = 2;
    static final int ALL_STEPS = 3;
    static final int NEW_POLE = 4;
    static final int COUNT = 5;

    static String name(int way) {
        return new String[] {"no step", "a clash", "a jackknife", "4000 steps", "a pole told just now"}[way];
    }

    static void go(SweptPaths paths, int way) {
        paths.body(9, 3, 8, 4, 4);
        paths.body(30, 5, 8, 8, 4);
        paths.pole(12, 3);
        paths.part(0, 3, 60, false);
        paths.part(1, 2, 8, true);
        paths.part(2, -1, 5, false);
        if (way == CLASH) {
            paths.go(3, 5, true);
            paths.go(-2, 4, true);
        } else if (way == JACKKNIFE) {
            paths.go(3, 200, false);
        } else if (way == ALL_STEPS) {
            for (int n = 0; n < 20; n++) {
                paths.go(0, 200, n % 2 == 0);
            }
        } else if (way == NEW_POLE) {
            paths.go(1, 3, false);
            paths.pole(-8, 0);
        }
    }

    private Ways() {
    }
}
