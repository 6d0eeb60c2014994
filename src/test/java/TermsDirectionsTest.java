/** "DIRECTIONS are 0 .. 63, 0 along x, 16 along y, round and round", and the paragraph behind it. */
public final class TermsDirectionsTest {
    public static void main(String[] args) {
        Check check = new Check();
        quarters(check);
        joinsOfTheRows(check);
        lorryRoundForwards(check);
        lorryRoundBack(check);
        trailerRound(check);
        askewRound(check);
        wholeUnits(check);
        check.end();
    }

    private static SweptPaths lorryAt(int heading) {
        SweptPaths paths = new SweptPaths();
        paths.body(1, 0, 0, 0, 1);
        paths.step(1);
        paths.start(0, 0, heading);
        return paths;
    }

    private static void way(Check check, int heading, int dx, int dy) {
        SweptPaths paths = lorryAt(heading);
        paths.go(0, 1, true);
        check.due("DX of " + heading, dx, paths.told(0, 0));
        check.due("DY of " + heading, dy, paths.told(0, 1));
    }

    /** "0 along x, 16 along y": and so 32 and 48 against them. */
    private static void quarters(Check check) {
        way(check, 0, 4096, 0);
        way(check, 16, 0, 4096);
        way(check, 32, -4096, 0);
        way(check, 48, 0, -4096);
    }

    /** "C(k) for k up to 16, -C(32 - k) for 17 .. 32, -C(k - 32) for 33 .. 48, C(64 - k) for 49 .. 63". */
    private static void joinsOfTheRows(Check check) {
        way(check, 1, 4076, 401);
        way(check, 15, 401, 4076);
        way(check, 17, -401, 4076);
        way(check, 31, -4076, 401);
        way(check, 33, -4076, -401);
        way(check, 47, -401, -4076);
        way(check, 49, 401, -4076);
        way(check, 63, 4076, -401);
        way(check, 8, 2896, 2896);
        way(check, 24, -2896, 2896);
        way(check, 40, -2896, -2896);
        way(check, 56, 2896, -2896);
    }

    private static void turned(Check check, int heading, int turn, boolean forwards, int due) {
        SweptPaths paths = lorryAt(heading);
        paths.go(turn, 1, forwards);
        check.due("heading " + heading + " and turn " + turn + (forwards ? "" : " back"), due, paths.told(0, 2));
    }

    private static void lorryRoundForwards(Check check) {
        turned(check, 63, 1, true, 0);
        turned(check, 63, 3, true, 2);
        turned(check, 61, 3, true, 0);
        turned(check, 60, 3, true, 63);
        turned(check, 0, -1, true, 63);
        turned(check, 0, -3, true, 61);
        turned(check, 3, -3, true, 0);
        turned(check, 2, -3, true, 63);
    }

    private static void lorryRoundBack(Check check) {
        turned(check, 0, 1, false, 63);
        turned(check, 2, 3, false, 63);
        turned(check, 3, 3, false, 0);
        turned(check, 63, -1, false, 0);
        turned(check, 61, -3, false, 0);
        turned(check, 60, -3, false, 63);
    }

    /** A trailer of LENGTH 1 with STEP 1 takes over the heading of the lorry at once. */
    private static void trailerRound(Check check) {
        for (int sign = -1; sign <= 1; sign += 2) {
            SweptPaths paths = new SweptPaths();
            paths.body(1, 0, 0, 0, 1);
            paths.body(1, 0, 0, 0, 1);
            paths.step(1);
            paths.start(0, 0, sign > 0 ? 62 : 1);
            paths.go(sign * 3, 1, true);
            check.due("the trailer's heading round the end", sign > 0 ? 1 : 62, paths.told(1, 2));
            check.due("it stands straight", 0, paths.told(1, 3));
        }
    }

    /** The lorry goes over the end of the directions, the trailer of LENGTH 200 stays: the askew is a small number. */
    private static void askewRound(Check check) {
        SweptPaths paths = new SweptPaths();
        paths.body(1, 0, 0, 0, 1);
        paths.body(200, 0, 0, 0, 1);
        paths.step(1);
        paths.start(0, 0, 63);
        paths.go(3, 1, true);
        check.due("heading of the lorry", 2, paths.told(0, 2));
        check.due("heading of the trailer", 63, paths.told(1, 2));
        check.due("askew over the end", 3, paths.told(1, 3));
        check.due("its size", 3, paths.told(1, 4));
        paths.start(0, 0, 0);
        paths.go(-3, 1, true);
        check.due("heading of the lorry", 61, paths.told(0, 2));
        check.due("askew over the end", -3, paths.told(1, 3));
        check.due("its size", 3, paths.told(1, 4));
        check.due("not stuck", false, paths.isStuck());
    }

    /** "what is told in whole units is 4096 times as much there". */
    private static void wholeUnits(Check check) {
        SweptPaths paths = lorryAt(0);
        paths.start(1, -1, 0);
        check.due("x", 4096, paths.told(0, 0));
        check.due("y", -4096, paths.told(0, 1));
        paths.start(-1000, 1000, 0);
        check.due("x", -4096000, paths.told(0, 0));
        check.due("y", 4096000, paths.told(0, 1));
    }
}
