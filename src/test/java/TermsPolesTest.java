/** "POLES 0 .. 19 are at places in whole units (-1000 .. 1000)", who STRIKES them, and THE CLASH. */
public final class TermsPolesTest {
    public static void main(String[] args) {
        Check check = new Check();
        twentyPoles(check);
        eachOfThemIsStruck(check);
        endsOfThePlaces(check);
        bodiesInOrderThenPoles(check);
        theFirstOneStays(check);
        fromTheNextStepOn(check);
        farAway(check);
        polesStay(check);
        withoutABody(check);
        check.end();
    }

    private static SweptPaths square() {
        SweptPaths paths = new SweptPaths();
        paths.body(1, 0, 4, 4, 4);
        return paths;
    }

    private static void clash(Check check, String name, SweptPaths paths, int step, int body, int pole) {
        check.due(name + ": step", step, paths.clash(0));
        check.due(name + ": body", body, paths.clash(1));
        check.due(name + ": pole", pole, paths.clash(2));
    }

    /** "illegal state: there are 20"; what is out of its bounds is told first. */
    private static void twentyPoles(Check check) {
        SweptPaths paths = square();
        for (int p = 0; p < 20; p++) {
            check.due("pole " + p, p, paths.pole(500, 500));
        }
        for (int n = 0; n < 3; n++) {
            check.state("a 21st pole", () -> paths.pole(0, 0));
        }
        check.refusesBeyond("x of a 21st pole", -1000, 1000, n -> paths.pole(n, 0));
        check.refusesBeyond("y of a 21st pole", -1000, 1000, n -> paths.pole(0, n));
        paths.go(0, 1, true);
        paths.start(0, 0, 0);
        clash(check, "a refused pole", paths, SweptPaths.NONE, SweptPaths.NONE, SweptPaths.NONE);
        paths.start(500, 500, 0);
        clash(check, "the first of twenty at one place", paths, 0, 0, 0);
    }

    private static void eachOfThemIsStruck(Check check) {
        SweptPaths paths = square();
        for (int p = 0; p < 20; p++) {
            paths.pole(50 * p - 500, 30);
        }
        for (int p = 0; p < 20; p++) {
            paths.start(50 * p - 500, 30, 0);
            clash(check, "pole " + p, paths, 0, 0, p);
        }
        paths.start(500, 30, 0);
        clash(check, "no pole", paths, -1, -1, -1);
    }

    private static void endsOfThePlaces(Check check) {
        SweptPaths paths = square();
        int pole = 0;
        for (int x = -1000; x <= 1000; x += 2000) {
            for (int y = -1000; y <= 1000; y += 2000) {
                check.due("a pole at the end", pole, paths.pole(x, y));
                paths.start(x, y, 5);
                clash(check, "the pole at the end", paths, 0, 0, pole);
                pole++;
            }
        }
        check.refusesBeyond("x", -1000, 1000, n -> paths.pole(n, 0));
        check.refusesBeyond("y", -1000, 1000, n -> paths.pole(0, n));
        check.due("none of them came", pole, paths.pole(0, 0));
    }

    /** "(bodies in order, of each the poles in order)": all three bodies stand on poles, the lorry on the last ones. */
    private static void bodiesInOrderThenPoles(Check check) {
        SweptPaths paths = new SweptPaths();
        paths.pole(-60, 0);
        paths.pole(-30, 1);
        paths.pole(-30, 0);
        paths.pole(1, 0);
        paths.pole(0, 0);
        paths.body(1, 0, 4, 4, 4);
        paths.body(30, 0, 4, 4, 4);
        paths.body(30, 0, 4, 4, 4);
        clash(check, "the lorry before the trailers", paths, 0, 0, 3);
        paths.start(-30, 0, 32);
        clash(check, "the lorry before trailer 1", paths, 0, 0, 1);
        paths.start(-90, 0, 32);
        clash(check, "trailer 1 before trailer 2", paths, 0, 1, 0);
        paths.start(-120, 0, 32);
        clash(check, "trailer 2 alone", paths, 0, 2, 0);
        paths.start(-150, 0, 32);
        clash(check, "none", paths, -1, -1, -1);
    }

    /** "THE CLASH is the first one": a later step, an earlier body or an earlier pole do not change it. */
    private static void theFirstOneStays(Check check) {
        SweptPaths paths = new SweptPaths();
        paths.body(1, 0, 4, 4, 4);
        paths.body(40, 0, 4, 4, 4);
        paths.pole(60, 0);
        paths.pole(-28, 0);
        paths.go(0, 1, true);
        clash(check, "none yet", paths, -1, -1, -1);
        paths.go(0, 1, true);
        clash(check, "trailer 1 strikes pole 1", paths, 2, 1, 1);
        paths.go(0, 12, true);
        clash(check, "the lorry strikes pole 0 later", paths, 2, 1, 1);
        paths.go(0, 60, false);
        clash(check, "and again on the way back", paths, 2, 1, 1);
    }

    /** "(it is struck by what stands there from now on, behind the next step)". */
    private static void fromTheNextStepOn(Check check) {
        SweptPaths paths = square();
        paths.pole(0, 0);
        clash(check, "told where it stands at the start", paths, -1, -1, -1);
        paths.go(0, 1, true);
        clash(check, "it stands on the edge behind the next step", paths, 1, 0, 0);
        SweptPaths away = square();
        away.step(5);
        away.pole(0, 0);
        away.go(0, 1, true);
        clash(check, "it is away behind the next step", away, -1, -1, -1);
        away.go(0, 1, false);
        clash(check, "it is there again", away, 2, 0, 0);
        SweptPaths on = square();
        on.go(0, 3, true);
        on.pole(0, 0);
        on.pole(12, 0);
        clash(check, "told behind three steps", on, -1, -1, -1);
        on.swept();
        on.best();
        on.sweeps(0);
        clash(check, "asking makes no clash", on, -1, -1, -1);
        on.go(0, 1, false);
        clash(check, "behind the fourth", on, 4, 0, 1);
        SweptPaths stuck = new SweptPaths();
        stuck.body(1, 0, 4, 4, 4);
        stuck.body(1, 0, 1, 1, 1);
        stuck.step(16);
        stuck.go(2, 1, true);
        stuck.pole(16, 0);
        stuck.go(0, 1, true);
        clash(check, "no step comes, no clash", stuck, -1, -1, -1);
    }

    /** What is far away is not struck, however far: up to 80000 units beyond the farthest place. */
    private static void farAway(Check check) {
        int[][] starts = {
            {1000, 0, 0}, {-1000, 0, 32}, {0, 1000, 16}, {0, -1000, 48}, {1000, 1000, 8}, {-1000, -1000, 40}
        };
        for (int[] start : starts) {
            SweptPaths paths = new SweptPaths();
            paths.body(1, 0, 60, 60, 20);
            paths.step(20);
            paths.start(start[0], start[1], start[2]);
            paths.go(0, 5, true);
            for (int n = -9; n <= 9; n++) {
                paths.pole(start[2] % 32 == 16 ? 0 : 100 * n, start[2] % 32 == 0 ? 0 : 100 * n);
            }
            for (int n = 0; n < 20; n++) {
                paths.go(0, 200, true);
            }
            clash(check, "far away", paths, -1, -1, -1);
            check.due("no cell either", 0, paths.swept());
        }
        for (int off = 128; off <= 1024; off += 128) {
            SweptPaths paths = square();
            paths.pole(500, 0);
            paths.start(500 - off, 0, 0);
            clash(check, "off by " + off, paths, -1, -1, -1);
            paths.start(500, Math.min(off, 1000), 16);
            clash(check, "off in y by " + off, paths, -1, -1, -1);
        }
    }

    private static void polesStay(Check check) {
        SweptPaths paths = square();
        paths.pole(0, 0);
        paths.step(4);
        clash(check, "behind a step told", paths, 0, 0, 0);
        paths.start(100, 0, 0);
        clash(check, "at another start", paths, -1, -1, -1);
        paths.body(100, 0, 4, 4, 4);
        clash(check, "of a new body", paths, 0, 1, 0);
        check.due("it is still the only one", 1, paths.pole(7, 7));
    }

    private static void withoutABody(Check check) {
        SweptPaths paths = new SweptPaths();
        check.due("a pole without a body", 0, paths.pole(0, 0));
        paths.start(0, 0, 0);
        paths.step(2);
        clash(check, "no body strikes nothing", paths, -1, -1, -1);
        paths.body(1, 0, 0, 0, 1);
        clash(check, "the first body does", paths, 0, 0, 0);
    }
}
