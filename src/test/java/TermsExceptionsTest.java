import java.util.ArrayList;
import java.util.List;
import java.util.function.Consumer;

/**
 * "In all calls illegal argument: a number is out of its bounds .. Of several exceptions the one named first is thrown;
 * a call that throws changes nothing": every call that can be refused, in every state that matters.
 */
public final class TermsExceptionsTest {
    private static final int[] FAR = {Integer.MIN_VALUE, Integer.MAX_VALUE};

    /** A call, and what it is called when it goes wrong. */
    private record Refused(String name, Consumer<SweptPaths> call) {
    }

    /** An object in some state, with so many bodies, and what is full in it. */
    private record State(String name, int bodies, boolean polesFull, boolean planFull, Consumer<SweptPaths> made) {
    }

    private final Check check = new Check();
    private final List<Refused> list = new ArrayList<>();

    public static void main(String[] args) {
        TermsExceptionsTest test = new TermsExceptionsTest();
        for (State state : states()) {
            test.isSo(state);
            test.argumentsIn(state);
            test.statesIn(state);
        }
        test.check.end();
    }

    private static List<State> states() {
        return List.of(
                new State("a new object", 0, false, false, paths -> { }),
                new State("poles and plans without a body", 0, true, true, paths -> {
                    poles(paths);
                    plans(paths);
                }),
                new State("a lorry that has gone", 1, false, false, paths -> {
                    paths.body(9, 3, 8, 4, 4);
                    paths.pole(30, 8);
                    paths.part(1, 1, 7, true);
                    paths.start(2, 3, 60);
                    paths.go(2, 7, true);
                }),
                new State("a train that has gone, all full", 3, true, true, paths -> {
                    train(paths);
                    poles(paths);
                    plans(paths);
                    paths.go(1, 9, true);
                    paths.go(-2, 3, false);
                }),
                new State("a jackknifed train", 3, false, true, paths -> {
                    train(paths);
                    plans(paths);
                    paths.go(3, 200, false);
                }),
                new State("a lorry behind 4000 steps", 1, true, false, paths -> {
                    paths.body(9, 3, 8, 4, 4);
                    poles(paths);
                    for (int n = 0; n < 20; n++) {
                        paths.go(1, 200, n % 2 == 0);
                    }
                }));
    }

    private static void train(SweptPaths paths) {
        paths.body(9, 3, 8, 4, 4);
        paths.body(30, 5, 8, 8, 4);
        paths.body(25, 0, 6, 6, 3);
        paths.step(3);
        paths.start(-5, 9, 2);
    }

    private static void poles(SweptPaths paths) {
        for (int p = 0; p < 20; p++) {
            paths.pole(20 + 10 * p, 15);
        }
    }

    private static void plans(SweptPaths paths) {
        for (int n = 1; n <= 6; n++) {
            paths.part(2, n % 3 - 1, 2 * n, n < 5);
        }
        paths.part(0, 1, 9, true);
    }

    /** Else the other checks would look at another state than their names say. */
    private void isSo(State state) {
        SweptPaths paths = new SweptPaths();
        state.made.accept(paths);
        check.due(state.name + ": jackknifed", state.name.contains("jackknifed"), paths.isStuck());
        if (state.name.contains("4000")) {
            check.due(state.name, 4000, paths.go(0, 1, true));
        }
        check.due(state.name + ": parts of plan 2", state.planFull ? 6 : 0, paths.clear(2));
        if (!state.polesFull) {
            check.due(state.name + ": there is room for a pole", true, paths.pole(0, 0) < 20);
        }
        if (state.bodies < 3) {
            check.due(state.name + ": the next body", state.bodies, paths.body(1, 0, 0, 0, 1));
        }
    }

    private void argumentsIn(State state) {
        list.clear();
        listTold();
        listAsked(state.bodies);
        listPlans();
        for (Refused refused : list) {
            String name = refused.name + " in " + state.name;
            Twins.untouched(check, name, state.made,
                    paths -> check.argument(name, () -> refused.call.accept(paths)));
        }
    }

    /** "Illegal state: as told": only where it is so, and where no number is out of its bounds. */
    private void statesIn(State state) {
        list.clear();
        if (state.bodies == 0) {
            list.add(new Refused("go without a body", paths -> paths.go(0, 1, true)));
            list.add(new Refused("go without a body", paths -> paths.go(3, 200, false)));
            list.add(new Refused("best without a body", paths -> paths.best()));
            list.add(new Refused("sweeps without a body", paths -> paths.sweeps(0)));
            list.add(new Refused("sweeps without a body", paths -> paths.sweeps(3)));
        }
        if (state.bodies == 3) {
            list.add(new Refused("a fourth body", paths -> paths.body(1, 0, 0, 0, 1)));
            list.add(new Refused("a fourth body", paths -> paths.body(200, 200, 60, 60, 20)));
        }
        if (state.polesFull) {
            list.add(new Refused("a 21st pole", paths -> paths.pole(-1000, 1000)));
            list.add(new Refused("a 21st pole", paths -> paths.pole(0, 0)));
        }
        if (state.planFull) {
            list.add(new Refused("a seventh part", paths -> paths.part(2, 3, 60, true)));
            list.add(new Refused("a seventh part", paths -> paths.part(2, -3, 1, false)));
        }
        for (Refused refused : list) {
            String name = refused.name + " in " + state.name;
            Twins.untouched(check, name, state.made, paths -> check.state(name, () -> refused.call.accept(paths)));
        }
    }

    private interface OneNumber {
        void call(SweptPaths paths, int number);
    }

    private void beyond(String name, int least, int greatest, OneNumber call) {
        list.add(new Refused(name + " too small", paths -> call.call(paths, least - 1)));
        list.add(new Refused(name + " too large", paths -> call.call(paths, greatest + 1)));
        for (int far : FAR) {
            list.add(new Refused(name + " " + far, paths -> call.call(paths, far)));
        }
    }

    private void listTold() {
        beyond("length of body", 1, 200, (paths, n) -> paths.body(n, 5, 5, 5, 5));
        beyond("hitch of body", 0, 200, (paths, n) -> paths.body(5, n, 5, 5, 5));
        beyond("front of body", 0, 60, (paths, n) -> paths.body(5, 5, n, 5, 5));
        beyond("rear of body", 0, 60, (paths, n) -> paths.body(5, 5, 5, n, 5));
        beyond("half of body", 1, 20, (paths, n) -> paths.body(5, 5, 5, 5, n));
        beyond("x of start", -1000, 1000, (paths, n) -> paths.start(n, 5, 5));
        beyond("y of start", -1000, 1000, (paths, n) -> paths.start(5, n, 5));
        beyond("heading of start", 0, 63, (paths, n) -> paths.start(5, 5, n));
        beyond("length of step", 1, 20, (paths, n) -> paths.step(n));
        beyond("x of pole", -1000, 1000, (paths, n) -> paths.pole(n, 8));
        beyond("y of pole", -1000, 1000, (paths, n) -> paths.pole(8, n));
        beyond("turn of go", -3, 3, (paths, n) -> paths.go(n, 5, true));
        beyond("turn of go back", -3, 3, (paths, n) -> paths.go(n, 5, false));
        beyond("steps of go", 1, 200, (paths, n) -> paths.go(1, n, true));
        beyond("steps of go back", 1, 200, (paths, n) -> paths.go(1, n, false));
    }

    private void listAsked(int bodies) {
        beyond("body of told", 0, bodies - 1, (paths, n) -> paths.told(n, 0));
        beyond("body of told", 0, bodies - 1, (paths, n) -> paths.told(n, 4));
        beyond("body of corner", 0, bodies - 1, (paths, n) -> paths.corner(n, 0, 0));
        for (int b = 0; b <= 2; b++) {
            int body = b;
            beyond("what of told of " + body, 0, 4, (paths, n) -> paths.told(body, n));
            beyond("corner of " + body, 0, 3, (paths, n) -> paths.corner(body, n, 0));
            beyond("axis of corner of " + body, 0, 1, (paths, n) -> paths.corner(body, 0, n));
        }
        beyond("i of cell", -32, 31, (paths, n) -> paths.cell(n, 0));
        beyond("j of cell", -32, 31, (paths, n) -> paths.cell(0, n));
        beyond("what of clash", 0, 2, (paths, n) -> paths.clash(n));
    }

    /** Plan 2 is the full one, plan 1 never is. */
    private void listPlans() {
        beyond("plan of part", 0, 3, (paths, n) -> paths.part(n, 1, 5, true));
        for (int p = 1; p <= 2; p++) {
            int plan = p;
            beyond("turn of part", -3, 3, (paths, n) -> paths.part(plan, n, 5, true));
            beyond("steps of part", 1, 60, (paths, n) -> paths.part(plan, 1, n, false));
        }
        beyond("plan of clear", 0, 3, (paths, n) -> paths.clear(n));
        beyond("plan of sweeps", 0, 3, (paths, n) -> paths.sweeps(n));
    }
}
