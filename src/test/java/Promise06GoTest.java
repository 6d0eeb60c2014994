public final class Promise06GoTest {
    public static void main(String[] args) {
        Check check = new Check();
        lorryForwardsAndBack(check);
        roundAndRound(check);
        trailerAndItsRest(check);
        trailersOneBehindTheOther(check);
        jackknifed(check);
        aClashStopsNothing(check);
        fourThousandSteps(check);
        theLastOfFourThousand(check);
        wrongInputs(check);
        check.end();
    }

    private static void place(Check check, SweptPaths paths, int body, int x, int y, int heading) {
        check.due("x of " + body, x, paths.told(body, 0));
        check.due("y of " + body, y, paths.told(body, 1));
        check.due("heading of " + body, heading, paths.told(body, 2));
    }

    private static void lorryForwardsAndBack(Check check) {
        SweptPaths paths = new SweptPaths();
        paths.body(5, 0, 1, 1, 1);
        check.due("go", 1, paths.go(3, 1, true));
        place(check, paths, 0, 16384, 0, 3);
        check.due("go", 2, paths.go(3, 1, true));
        place(check, paths, 0, 16384 + 4 * 3920, 4 * 1189, 6);
        check.due("go", 3, paths.go(-1, 1, true));
        place(check, paths, 0, 16384 + 4 * 3920 + 4 * 3406, 4 * 1189 + 4 * 2276, 5);
        paths.start(0, 0, 0);
        check.due("go", 1, paths.go(3, 1, false));
        place(check, paths, 0, -16384, 0, 61);
        check.due("go", 2, paths.go(3, 1, false));
        place(check, paths, 0, -16384 - 4 * 3920, 4 * 1189, 58);
        check.due("go", 3, paths.go(-3, 1, false));
        place(check, paths, 0, -16384 - 4 * 3920 - 4 * 3406, 4 * 1189 + 4 * 2276, 61);
    }

    /** The DX and DY of all directions, from the document's rows. */
    private static void roundAndRound(Check check) {
        for (int k = 0; k < 64; k++) {
            SweptPaths paths = new SweptPaths();
            paths.body(1, 0, 0, 0, 1);
            paths.step(1);
            paths.start(0, 0, k);
            paths.go(3, 1, true);
            place(check, paths, 0, Directions.dx(k), Directions.dy(k), (k + 3) % 64);
            paths.start(0, 0, k);
            paths.go(2, 1, false);
            place(check, paths, 0, -Directions.dx(k), -Directions.dy(k), (k + 62) % 64);
        }
        SweptPaths twice = new SweptPaths();
        twice.body(1, 0, 0, 0, 1);
        twice.go(1, 128, true);
        place(check, twice, 0, 0, 0, 0);
    }

    private static void trailerAndItsRest(Check check) {
        SweptPaths paths = new SweptPaths();
        paths.body(5, 6, 1, 1, 1);
        paths.body(30, 0, 1, 1, 1);
        int[] headings = {0, 1, 2};
        for (int n = 0; n < 3; n++) {
            paths.go(3, 1, true);
            check.due("the trailer turns left", headings[n], paths.told(1, 2));
        }
        paths.start(0, 0, 0);
        int[] mirrored = {0, 63, 62};
        for (int n = 0; n < 3; n++) {
            paths.go(-3, 1, true);
            check.due("the trailer turns right, rounded to 0", mirrored[n], paths.told(1, 2));
        }
        // Back with turn 3: headings 61, 58 and askew -3, -6, so the rest grows to 12, then 36, which is one of 30.
        paths.start(0, 0, 0);
        paths.go(3, 2, false);
        check.due("heading of the lorry, back", 58, paths.told(0, 2));
        check.due("heading of the trailer, back", 1, paths.told(1, 2));
        check.due("x of the trailer", paths.told(0, 0) - 6 * 3406 - 30 * 4076, paths.told(1, 0));
        check.due("y of the trailer", paths.told(0, 1) + 6 * 2276 - 30 * 401, paths.told(1, 1));
        // The rest of 6 and askew -7 less TURN 2, times 4: 42 makes one of 30 again.
        paths.go(2, 1, false);
        check.due("the rest is kept", 2, paths.told(1, 2));
    }

    private static void trailersOneBehindTheOther(Check check) {
        SweptPaths paths = new SweptPaths();
        paths.body(9, 1, 1, 1, 1);
        paths.body(4, 2, 1, 1, 1);
        paths.body(4, 0, 1, 1, 1);
        paths.go(3, 1, true);
        check.due("trailer 1 follows at once", 3, paths.told(1, 2));
        check.due("trailer 2 follows trailer 1 as it is then", 3, paths.told(2, 2));
        check.due("x of trailer 2", 16384 - 3920 * 11, paths.told(2, 0));
        check.due("y of trailer 2", -1189 * 11, paths.told(2, 1));
    }

    private static void jackknifed(Check check) {
        SweptPaths paths = new SweptPaths();
        paths.body(5, 0, 1, 1, 1);
        paths.body(200, 0, 1, 1, 1);
        paths.step(1);
        check.due("up to an askew of 24", 8, paths.go(3, 8, true));
        check.due("not yet", false, paths.isStuck());
        check.due("one more", 9, paths.go(3, 50, true));
        check.due("askew 27", 27, paths.told(1, 3));
        String before = Snapshot.of(paths, 2);
        check.due("no step any more", 9, paths.go(-3, 200, true));
        check.due("no step back either", 9, paths.go(0, 1, false));
        check.due("nothing moves", true, before.equals(Snapshot.of(paths, 2)));
        check.argument("wrong all the same", () -> paths.go(4, 1, true));
        paths.step(1);
        check.due("anew", 9, paths.go(-3, 200, true));
        check.due("askew -27", -27, paths.told(1, 3));
    }

    /** "fewer if it is JACKKNIFED, or there are 4000 in all": a clash on the way makes it no fewer. */
    private static void aClashStopsNothing(Check check) {
        SweptPaths paths = new SweptPaths();
        paths.body(5, 0, 4, 4, 4);
        paths.pole(0, 0);
        paths.pole(100, 0);
        paths.start(0, 0, 0);
        check.due("a clash at the start", 0, paths.clash(0));
        check.due("all steps", 200, paths.go(0, 200, true));
        place(check, paths, 0, 800 * 4096, 0, 0);
        paths.start(40, 0, 0);
        check.due("all steps over a pole", 30, paths.go(0, 30, true));
        check.due("a clash on the way", 14, paths.clash(0));
        check.due("all steps behind a clash", 60, paths.go(0, 30, true));
        place(check, paths, 0, 280 * 4096, 0, 0);
    }

    private static void fourThousandSteps(Check check) {
        SweptPaths paths = new SweptPaths();
        paths.body(5, 0, 1, 1, 1);
        paths.step(20);
        paths.start(1000, -1000, 0);
        for (int n = 1; n <= 20; n++) {
            check.due("go", 199 * n, paths.go(0, 199, true));
        }
        check.due("fewer steps", 4000, paths.go(0, 200, true));
        place(check, paths, 0, (1000 + 4000 * 20) * 4096, -1000 * 4096, 0);
        check.due("none any more", 4000, paths.go(1, 1, false));
        place(check, paths, 0, (1000 + 4000 * 20) * 4096, -1000 * 4096, 0);
        check.due("that is not stuck", false, paths.isStuck());
        paths.start(-1000, -1000, 48);
        for (int n = 1; n <= 20; n++) {
            check.due("go anew", 200 * n, paths.go(0, 200, true));
        }
        place(check, paths, 0, -1000 * 4096, (-1000 - 4000 * 20) * 4096, 48);
        check.due("nothing swept far away", 0, paths.swept());
    }

    /** 3999, then one of 200, then none: refused calls and the way back count as steps do, or not at all. */
    private static void theLastOfFourThousand(Check check) {
        for (int steps = 1; steps <= 200; steps += 199) {
            SweptPaths paths = new SweptPaths();
            paths.body(5, 0, 1, 1, 1);
            for (int n = 1; n <= 19; n++) {
                paths.go(0, 200, n % 2 == 0);
            }
            check.due("3999", 3999, paths.go(0, 199, true));
            check.argument("no steps", () -> paths.go(0, 0, true));
            check.argument("too many steps", () -> paths.go(0, 201, true));
            int x = paths.told(0, 0);
            check.due("only one more", 4000, paths.go(3, steps, true));
            place(check, paths, 0, x + 4 * 4096, 0, 3);
            check.due("none", 4000, paths.go(3, steps, true));
            check.due("none back", 4000, paths.go(-3, steps, false));
            place(check, paths, 0, x + 4 * 4096, 0, 3);
            check.refusesBeyond("turn behind 4000", -3, 3, n -> paths.go(n, 1, true));
            check.refusesBeyond("steps behind 4000", 1, 200, n -> paths.go(0, n, true));
        }
    }

    private static void wrongInputs(Check check) {
        SweptPaths paths = new SweptPaths();
        check.state("no body", () -> paths.go(-3, 1, true));
        check.refusesBeyond("turn without a body", -3, 3, n -> paths.go(n, 1, true));
        check.refusesBeyond("steps without a body", 1, 200, n -> paths.go(0, n, true));
        paths.body(1, 0, 4, 4, 4);
        paths.go(1, 3, true);
        String before = Snapshot.of(paths, 1);
        check.refusesBeyond("turn", -3, 3, n -> paths.go(n, 1, true));
        check.refusesBeyond("steps", 1, 200, n -> paths.go(0, n, false));
        check.due("refused goes change nothing", true, before.equals(Snapshot.of(paths, 1)));
        check.due("the steps go on", 203, paths.go(-3, 200, false));
    }
}
