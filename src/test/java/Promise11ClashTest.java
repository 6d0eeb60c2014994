public final class Promise11ClashTest {
    public static void main(String[] args) {
        Check check = new Check();
        behindAStep(check);
        bodiesThenPoles(check);
        behindTheLastStepOfAJackknife(check);
        theWayBack(check);
        behindTheLastOfFourThousand(check);
        wrongInputs(check);
        check.end();
    }

    private static void clash(Check check, SweptPaths paths, int step, int body, int pole) {
        check.due("clash(0)", step, paths.clash(0));
        check.due("clash(1)", body, paths.clash(1));
        check.due("clash(2)", pole, paths.clash(2));
    }

    private static void behindAStep(Check check) {
        SweptPaths paths = new SweptPaths();
        paths.body(5, 0, 10, 4, 3);
        paths.pole(40, 4);
        paths.pole(40, 3);
        clash(check, paths, -1, -1, -1);
        paths.go(0, 7, true);
        clash(check, paths, -1, -1, -1);
        paths.go(0, 5, true);
        clash(check, paths, 8, 0, 1);
        paths.start(31, 1, 0);
        clash(check, paths, 0, 0, 0);
        paths.start(0, 500, 0);
        clash(check, paths, -1, -1, -1);
    }

    private static void bodiesThenPoles(Check check) {
        SweptPaths paths = new SweptPaths();
        paths.pole(-40, 0);
        paths.pole(-80, 0);
        paths.pole(1, 0);
        paths.pole(2, 0);
        paths.body(5, 0, 4, 4, 4);
        clash(check, paths, 0, 0, 2);
        paths.body(40, 0, 4, 4, 4);
        clash(check, paths, 0, 0, 2);
        paths.body(40, 0, 4, 4, 4);
        paths.start(20, 0, 0);
        clash(check, paths, -1, -1, -1);
        paths.step(20);
        paths.go(0, 1, false);
        clash(check, paths, 1, 0, 2);
        paths.start(0, 0, 16);
        clash(check, paths, 0, 0, 2);
        paths.start(-30, 0, 32);
        clash(check, paths, -1, -1, -1);
        paths.start(-78, 0, 32);
        clash(check, paths, 0, 0, 1);
        paths.start(-121, 0, 32);
        clash(check, paths, 0, 1, 1);
        paths.start(-160, 0, 32);
        clash(check, paths, 0, 2, 1);
    }

    /** What is struck behind the very step that jackknifes it counts. */
    private static void behindTheLastStepOfAJackknife(Check check) {
        SweptPaths paths = new SweptPaths();
        paths.body(5, 0, 1, 1, 1);
        paths.body(200, 0, 1, 1, 1);
        paths.step(20);
        paths.go(3, 200, true);
        check.due("stuck", true, paths.isStuck());
        int last = paths.go(3, 1, true);
        int x = Math.floorDiv(paths.told(0, 0) + 2048, 4096);
        int y = Math.floorDiv(paths.told(0, 1) + 2048, 4096);
        paths.pole(x, y);
        paths.go(0, 1, true);
        clash(check, paths, -1, -1, -1);
        paths.start(0, 0, 0);
        paths.go(3, 200, true);
        clash(check, paths, last, 0, 0);
    }

    private static void theWayBack(Check check) {
        SweptPaths paths = new SweptPaths();
        paths.body(5, 0, 4, 4, 4);
        paths.go(0, 10, true);
        paths.pole(0, 0);
        paths.go(0, 12, false);
        clash(check, paths, 19, 0, 0);
    }

    /** Back and forth over 800 units, then one step beyond; no step comes any more to strike the other pole. */
    private static void behindTheLastOfFourThousand(Check check) {
        SweptPaths paths = new SweptPaths();
        paths.body(5, 0, 4, 4, 4);
        for (int n = 0; n < 19; n++) {
            paths.go(0, 200, n % 2 == 0);
        }
        paths.go(0, 199, false);
        paths.pole(-4, 0);
        paths.go(0, 1, false);
        clash(check, paths, 4000, 0, 0);
        SweptPaths late = new SweptPaths();
        late.body(5, 0, 4, 4, 4);
        for (int n = 0; n < 20; n++) {
            late.go(0, 200, n % 2 == 0);
        }
        late.pole(0, 0);
        late.go(0, 200, true);
        clash(check, late, -1, -1, -1);
    }

    private static void wrongInputs(Check check) {
        SweptPaths paths = new SweptPaths();
        check.refusesBeyond("what", 0, 2, n -> paths.clash(n));
        paths.body(1, 0, 1, 1, 1);
        check.refusesBeyond("what", 0, 2, n -> paths.clash(n));
    }
}
