import java.util.function.Consumer;

/**
 * Two objects that must be alike are asked and driven on alike, and all their answers are held against each other:
 * what is hidden (rests, the step, the poles, the parts, the start) shows in what comes later.
 */
final class Twins {
    static void alike(Check check, String name, Consumer<SweptPaths> one, Consumer<SweptPaths> other) {
        SweptPaths first = new SweptPaths();
        SweptPaths second = new SweptPaths();
        one.accept(first);
        other.accept(second);
        check.due(name, true, answersFromNowOn(first).equals(answersFromNowOn(second)));
    }

    /** What is done changes nothing of an object so made. */
    static void untouched(Check check, String name, Consumer<SweptPaths> made, Consumer<SweptPaths> done) {
        alike(check, name + " changes nothing", made.andThen(done), made);
    }

    /** Some 220 calls, in an order that shows each part of the state before a call lets it begin anew. */
    static String answersFromNowOn(SweptPaths paths) {
        StringBuilder all = new StringBuilder();
        appendState(all, paths);
        appendPlans(all, paths);
        append(all, () -> paths.go(1, 2, true));
        append(all, () -> paths.go(-2, 3, false));
        append(all, () -> paths.pole(8, 8));
        append(all, () -> paths.go(0, 1, true));
        appendState(all, paths);
        append(all, () -> paths.step(5));
        append(all, () -> paths.go(3, 4, true));
        appendState(all, paths);
        append(all, () -> paths.body(7, 5, 6, 6, 4));
        appendState(all, paths);
        append(all, () -> paths.go(2, 6, false));
        appendState(all, paths);
        for (int p = 0; p <= 3; p++) {
            int plan = p;
            append(all, () -> paths.part(plan, 1, 2, true));
        }
        appendPlans(all, paths);
        for (int p = 0; p <= 3; p++) {
            int plan = p;
            append(all, () -> paths.clear(plan));
        }
        return all.toString();
    }

    private static void appendPlans(StringBuilder all, SweptPaths paths) {
        append(all, () -> paths.best());
        for (int p = 0; p <= 3; p++) {
            int plan = p;
            append(all, () -> paths.sweeps(plan));
        }
    }

    private static void appendState(StringBuilder all, SweptPaths paths) {
        for (int b = 0; b <= 2; b++) {
            int body = b;
            for (int w = 0; w <= 4; w++) {
                int what = w;
                append(all, () -> paths.told(body, what));
            }
            append(all, () -> paths.corner(body, 0, 0));
            append(all, () -> paths.corner(body, 2, 1));
        }
        append(all, () -> paths.swept());
        for (int i = -3; i <= 3; i++) {
            int at = i;
            append(all, () -> paths.cell(at, 0) ? 1 : 0);
            append(all, () -> paths.cell(at, -at) ? 1 : 0);
            append(all, () -> paths.cell(at, at) ? 1 : 0);
        }
        for (int w = 0; w <= 2; w++) {
            int what = w;
            append(all, () -> paths.clash(what));
        }
        append(all, () -> paths.isStuck() ? 1 : 0);
        all.append('\n');
    }

    private static void append(StringBuilder all, Check.Call call) {
        try {
            all.append(call.answer());
        } catch (IllegalArgumentException e) {
            all.append("argument");
        } catch (IllegalStateException e) {
            all.append("state");
        }
        all.append(' ');
    }

    private Twins() {
    }
}
