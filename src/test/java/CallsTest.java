/** "An object is used for at most 512 calls after it has been made": the last of them is answered as the first. */
public final class CallsTest {
    public static void main(String[] args) {
        Check check = new Check();
        manySteps(check);
        manyPlans(check);
        manyRefused(check);
        manyNewBeginnings(check);
        check.end();
    }

    private static void manySteps(Check check) {
        SweptPaths paths = new SweptPaths();
        paths.body(1, 0, 4, 4, 4);
        for (int n = 1; n <= 510; n++) {
            check.due("go, call " + (n + 1), n, paths.go(0, 1, n % 2 == 1));
        }
        check.due("the 512th call", 0, paths.told(0, 0));
    }

    /** Three bodies, four plans of 360 steps each. */
    private static void manyPlans(Check check) {
        SweptPaths paths = new SweptPaths();
        for (int b = 0; b < 3; b++) {
            paths.body(60, 10, 60, 60, 20);
        }
        for (int plan = 0; plan <= 3; plan++) {
            for (int n = 0; n < 6; n++) {
                paths.part(plan, 0, 60, n % 2 == plan % 2);
            }
        }
        int best = paths.best();
        int sweeps = paths.sweeps(3);
        for (int call = 30; call <= 510; call++) {
            check.due("best, call " + call, best, paths.best());
        }
        check.due("the 511th call", sweeps, paths.sweeps(3));
        check.due("the 512th call", best, paths.best());
    }

    private static void manyRefused(Check check) {
        SweptPaths paths = new SweptPaths();
        for (int n = 1; n <= 510; n++) {
            check.state("go without a body", () -> paths.go(0, 1, true));
        }
        check.due("the 511th call", 0, paths.body(1, 0, 4, 4, 4));
        check.due("the 512th call", 200, paths.go(3, 200, true));
    }

    private static void manyNewBeginnings(Check check) {
        SweptPaths paths = new SweptPaths();
        paths.body(1, 0, 4, 4, 4);
        for (int n = 0; n < 170; n++) {
            paths.start(4 + 8 * (n % 20), 4, n % 64);
            check.due("go anew", 200, paths.go(1, 200, true));
            check.due("the step", 4, paths.step(4));
        }
        check.due("the 512th call", 1, paths.go(0, 1, true));
    }
}
