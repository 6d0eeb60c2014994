import java.util.List;
import java.util.function.Consumer;

/** "THE START is a place in whole units", and what begins anew. */
public final class TermsStartTest {
    public static void main(String[] args) {
        Check check = new Check();
        atFirst(check);
        ends(check);
        beyondTheEnds(check);
        allBodiesHaveThatHeading(check);
        beginsAnew(check);
        theOthersStay(check);
        doesNotBeginAnew(check);
        refusedCallsDoNotBeginAnew(check);
        check.end();
    }

    /** "(0, 0 and 0 at first)". */
    private static void atFirst(Check check) {
        SweptPaths paths = new SweptPaths();
        paths.body(1, 0, 1, 1, 1);
        check.due("x at first", 0, paths.told(0, 0));
        check.due("y at first", 0, paths.told(0, 1));
        check.due("heading at first", 0, paths.told(0, 2));
        Consumer<SweptPaths> told = none -> Ways.go(none, Ways.NO_STEP);
        Twins.alike(check, "a start of 0, 0 and 0 is that at first", told, told.andThen(same -> same.start(0, 0, 0)));
    }

    /** "(-1000 .. 1000) and a heading". */
    private static void ends(Check check) {
        SweptPaths paths = new SweptPaths();
        paths.body(1, 0, 1, 1, 1);
        for (int x = -1000; x <= 1000; x += 2000) {
            for (int y = -1000; y <= 1000; y += 2000) {
                for (int heading = 0; heading <= 63; heading += 63) {
                    paths.start(x, y, heading);
                    check.due("x", x * 4096, paths.told(0, 0));
                    check.due("y", y * 4096, paths.told(0, 1));
                    check.due("heading", heading, paths.told(0, 2));
                }
            }
        }
    }

    private static void beyondTheEnds(Check check) {
        SweptPaths paths = new SweptPaths();
        for (int bodies = 0; bodies <= 3; bodies++) {
            check.refusesBeyond("x", -1000, 1000, n -> paths.start(n, 7, 7));
            check.refusesBeyond("y", -1000, 1000, n -> paths.start(7, n, 7));
            check.refusesBeyond("heading", 0, 63, n -> paths.start(7, 7, n));
            if (bodies < 3) {
                paths.body(1, 0, 1, 1, 1);
            }
        }
        check.due("the start is as it was", 0, paths.told(0, 2));
    }

    private static void allBodiesHaveThatHeading(Check check) {
        for (int heading = 0; heading <= 63; heading += 7) {
            SweptPaths paths = new SweptPaths();
            Ways.go(paths, Ways.NO_STEP);
            paths.body(25, 4, 3, 3, 3);
            paths.go(2, 9, true);
            paths.start(3, 3, heading);
            for (int b = 0; b <= 2; b++) {
                check.due("heading of body " + b, heading, paths.told(b, 2));
                check.due("askew of body " + b, 0, paths.told(b, 3));
                check.due("greatest askew of body " + b, 0, paths.told(b, 4));
            }
        }
    }

    /** "begin anew whenever a start, a body, or the STEP is told": as if no step had been made. */
    private static void beginsAnew(Check check) {
        String[] names = {"a new start", "the same start", "a body", "a new step", "the same step"};
        List<Consumer<SweptPaths>> tells = List.of(
                paths -> paths.start(10, -6, 63), paths -> paths.start(0, 0, 0),
                paths -> paths.body(20, 0, 5, 5, 5), paths -> paths.step(7), paths -> paths.step(4));
        Consumer<SweptPaths> noStep = paths -> Ways.go(paths, Ways.NO_STEP);
        for (int way : new int[] {Ways.CLASH, Ways.JACKKNIFE, Ways.ALL_STEPS}) {
            Consumer<SweptPaths> gone = paths -> Ways.go(paths, way);
            for (int t = 0; t < names.length; t++) {
                Twins.alike(check, "behind " + Ways.name(way) + " " + names[t] + " lets all begin anew",
                        gone.andThen(tells.get(t)), noStep.andThen(tells.get(t)));
            }
        }
    }

    /** A start leaves the step, a step the start, a body both as they are. */
    private static void theOthersStay(Check check) {
        SweptPaths paths = new SweptPaths();
        paths.step(7);
        paths.start(30, -40, 16);
        paths.body(1, 0, 1, 1, 1);
        paths.go(1, 1, true);
        check.due("the step behind a start and a body", -33 * 4096, paths.told(0, 1));
        check.due("the step it was", 7, paths.step(9));
        check.due("x of the start behind a step", 30 * 4096, paths.told(0, 0));
        check.due("y of the start behind a step", -40 * 4096, paths.told(0, 1));
        check.due("heading of the start behind a step", 16, paths.told(0, 2));
        paths.body(5, 0, 1, 1, 1);
        check.due("x of the start behind a body", 30 * 4096, paths.told(0, 0));
        check.due("y of the trailer behind a body", -45 * 4096, paths.told(1, 1));
        check.due("the step behind a body", 9, paths.step(1));
    }

    /** Poles, parts, plans cleared and all that only asks let nothing begin anew. */
    private static void doesNotBeginAnew(Check check) {
        SweptPaths paths = new SweptPaths();
        Ways.go(paths, Ways.CLASH);
        String before = Snapshot.of(paths, 2);
        paths.pole(500, 500);
        paths.part(3, 0, 1, true);
        paths.clear(3);
        paths.clear(0);
        check.due("a pole, a part, a cleared plan", true, before.equals(Snapshot.of(paths, 2)));
        check.due("the steps go on", 10, paths.go(0, 1, true));
        Consumer<SweptPaths> gone = asked -> Ways.go(asked, Ways.CLASH);
        Twins.untouched(check, "told, corner, swept, cell, clash and isStuck", gone, asked -> {
            asked.told(1, 3);
            asked.corner(1, 2, 0);
            asked.swept();
            asked.cell(0, 0);
            asked.clash(0);
            asked.isStuck();
        });
    }

    private static void refusedCallsDoNotBeginAnew(Check check) {
        Consumer<SweptPaths> gone = paths -> {
            paths.start(5, 5, 5);
            Ways.go(paths, Ways.CLASH);
        };
        Twins.untouched(check, "a refused start", gone,
                paths -> check.argument("start", () -> paths.start(0, 0, 64)));
        Twins.untouched(check, "a refused body", gone,
                paths -> check.argument("body", () -> paths.body(1, 0, 61, 0, 1)));
        Twins.untouched(check, "a refused step", gone,
                paths -> check.argument("step", () -> paths.step(21)));
    }
}
