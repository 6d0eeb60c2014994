/** "BODIES are 0 .. 2, as they come", and what a body has. */
public final class TermsBodiesTest {
    private static final int[] LEAST = {1, 0, 0, 0, 1};
    private static final int[] GREATEST = {200, 200, 60, 60, 20};
    private static final String[] NAMES = {"LENGTH", "HITCH", "FRONT", "REAR", "HALF"};

    public static void main(String[] args) {
        Check check = new Check();
        asTheyCome(check);
        eachNumberAtItsEnds(check);
        eachNumberBeyondItsEnds(check);
        numbersOfTheLorryThatDoNotMove(check);
        hitchAndLengthAtTheirEnds(check);
        noSuchBody(check);
        check.end();
    }

    private static int body(SweptPaths paths, int[] numbers) {
        return paths.body(numbers[0], numbers[1], numbers[2], numbers[3], numbers[4]);
    }

    private static void asTheyCome(Check check) {
        SweptPaths paths = new SweptPaths();
        for (int b = 0; b <= 2; b++) {
            check.due("body " + b, b, paths.body(10, 0, b, b, 1 + b));
        }
        check.state("a fourth", () -> paths.body(10, 0, 1, 1, 1));
        for (int b = 0; b <= 2; b++) {
            check.due("the front of " + b, (b - 10 * b) * 4096, paths.corner(b, 0, 0));
            check.due("the half of " + b, (1 + b) * 4096, paths.corner(b, 0, 1));
        }
    }

    /** "a LENGTH (1 .. 200), a HITCH (0 .. 200), FRONT and REAR (0 .. 60 each) and a HALF width (1 .. 20)". */
    private static void eachNumberAtItsEnds(Check check) {
        for (int n = 0; n < 5; n++) {
            SweptPaths paths = new SweptPaths();
            int[] numbers = {10, 10, 10, 10, 10};
            numbers[n] = LEAST[n];
            check.due("the least " + NAMES[n], 0, body(paths, numbers));
            numbers[n] = GREATEST[n];
            check.due("the greatest " + NAMES[n], 1, body(paths, numbers));
        }
        SweptPaths paths = new SweptPaths();
        check.due("all the least", 0, body(paths, LEAST));
        check.due("all the greatest", 1, body(paths, GREATEST));
    }

    private static void eachNumberBeyondItsEnds(Check check) {
        for (int n = 0; n < 5; n++) {
            int at = n;
            for (int bodies = 0; bodies <= 3; bodies++) {
                SweptPaths paths = new SweptPaths();
                for (int b = 0; b < bodies; b++) {
                    paths.body(10, 10, 10, 10, 10);
                }
                check.refusesBeyond(NAMES[n] + " with bodies: " + bodies, LEAST[n], GREATEST[n], number -> {
                    int[] numbers = {10, 10, 10, 10, 10};
                    numbers[at] = number;
                    body(paths, numbers);
                });
                int next = bodies;
                if (bodies < 3) {
                    check.due("the next body", next, paths.body(10, 10, 10, 10, 10));
                }
            }
        }
    }

    /** The LENGTH of the lorry and the HITCH of the last body are in no place. */
    private static void numbersOfTheLorryThatDoNotMove(Check check) {
        SweptPaths paths = new SweptPaths();
        paths.body(200, 3, 1, 1, 1);
        paths.body(5, 200, 1, 1, 1);
        check.due("x of the lorry", 0, paths.told(0, 0));
        check.due("x of the trailer", -8 * 4096, paths.told(1, 0));
        check.due("y of the trailer", 0, paths.told(1, 1));
        paths.body(7, 200, 1, 1, 1);
        check.due("x of the second trailer", -215 * 4096, paths.told(2, 0));
    }

    private static void hitchAndLengthAtTheirEnds(Check check) {
        SweptPaths near = new SweptPaths();
        near.body(1, 0, 1, 1, 1);
        near.body(1, 0, 1, 1, 1);
        near.body(1, 0, 1, 1, 1);
        check.due("HITCH 0, LENGTH 1", -4096, near.told(1, 0));
        check.due("HITCH 0, LENGTH 1 twice", -2 * 4096, near.told(2, 0));
        SweptPaths far = new SweptPaths();
        far.body(200, 200, 1, 1, 1);
        far.body(200, 200, 1, 1, 1);
        far.body(200, 200, 1, 1, 1);
        far.start(-1000, -1000, 8);
        check.due("HITCH 200, LENGTH 200", -4096000 - 400 * 2896, far.told(1, 0));
        check.due("HITCH 200, LENGTH 200 twice", -4096000 - 800 * 2896, far.told(2, 1));
    }

    /** "there is no such body": the numbers of those that there are, and no other. */
    private static void noSuchBody(Check check) {
        SweptPaths paths = new SweptPaths();
        for (int bodies = 0; bodies <= 3; bodies++) {
            int last = bodies - 1;
            check.refusesBeyond("told with bodies: " + bodies, 0, last, b -> paths.told(b, 0));
            check.refusesBeyond("corner with bodies: " + bodies, 0, last, b -> paths.corner(b, 0, 0));
            for (int b = 0; b < bodies; b++) {
                check.due("told of body " + b, 0, paths.told(b, 2));
                check.due("corner of body " + b, 4096, paths.corner(b, 3, 1));
            }
            if (bodies < 3) {
                paths.body(3, 0, 0, 0, 1);
            }
        }
    }
}
