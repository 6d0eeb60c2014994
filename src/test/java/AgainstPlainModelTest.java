/** Runs of calls, always the same ones, on an object and on the plain model side by side. */
public final class AgainstPlainModelTest {
    private static final int RUNS = 400;
    private static final int CALLS = 150;
    private static final int THROWS_ARGUMENT = -1_000_000_001;
    private static final int THROWS_STATE = -1_000_000_002;

    /** The same row of numbers for the same run, always and everywhere. */
    private static final class Dice {
        private long state;

        Dice(int run) {
            state = run * 0x9E3779B97F4A7C15L;
        }

        int nextInt() {
            state = state * 6364136223846793005L + 1442695040888963407L;
            return (int) (state >>> 32);
        }

        int nextInt(int bound) {
            return Math.floorMod(nextInt(), bound);
        }

        boolean nextBoolean() {
            return nextInt() < 0;
        }
    }

    private final Check check;
    private final Dice dice;
    private final boolean near;
    private final int run;
    private final SweptPaths paths = new SweptPaths();
    private final PlainModel model = new PlainModel();

    private AgainstPlainModelTest(Check check, int run) {
        this.check = check;
        this.run = run;
        // Some runs keep near the middle with small bodies, others go to the ends of all numbers.
        this.near = run % 3 != 0;
        this.dice = new Dice(run);
    }

    public static void main(String[] args) {
        Check check = new Check();
        for (int run = 1; run <= RUNS; run++) {
            AgainstPlainModelTest test = new AgainstPlainModelTest(check, run);
            for (int n = 0; n < CALLS; n++) {
                test.callOnBoth();
            }
        }
        check.end();
    }

    private static long answerOf(Check.Call call) {
        try {
            return call.answer();
        } catch (IllegalArgumentException e) {
            return THROWS_ARGUMENT;
        } catch (IllegalStateException e) {
            return THROWS_STATE;
        }
    }

    private void same(String call, Check.Call ours, Check.Call models) {
        check.due("run " + run + ": " + call, answerOf(models), answerOf(ours));
    }

    /** Mostly within the bounds, often at their ends, now and then beyond. */
    private int number(int least, int greatest) {
        int kind = dice.nextInt(60);
        if (kind == 0) {
            return least - 1;
        }
        if (kind == 1) {
            return greatest + 1;
        }
        if (kind == 2) {
            return dice.nextInt();
        }
        if (kind < 7) {
            return dice.nextBoolean() ? least : greatest;
        }
        return least + dice.nextInt(greatest - least + 1);
    }

    private int place() {
        return near ? number(-120, 120) : dice.nextInt(4) == 0 ? number(-1000, 1000) : number(-260, 260);
    }

    private int size(int least, int greatest) {
        return near ? number(least, Math.max(least + 1, greatest / 3)) : number(least, greatest);
    }

    private void callOnBoth() {
        int kind = dice.nextInt(40);
        if (kind < 8) {
            tell(kind);
        } else if (kind < 16) {
            goOnBoth();
        } else if (kind < 20) {
            plan(kind);
        } else {
            ask(kind);
        }
    }

    private void tell(int kind) {
        int a = kind < 3 ? size(1, 200) : place();
        int b = kind < 3 ? size(0, 200) : place();
        if (kind < 3) {
            int front = size(0, 60);
            int rear = size(0, 60);
            int half = size(1, 20);
            same("body", () -> paths.body(a, b, front, rear, half), () -> model.body(a, b, front, rear, half));
        } else if (kind == 3) {
            int heading = number(0, 63);
            same("start", () -> {
                paths.start(a, b, heading);
                return 0;
            }, () -> model.start(a, b, heading));
        } else if (kind == 4) {
            int length = number(1, 20);
            same("step", () -> paths.step(length), () -> model.step(length));
        } else {
            same("pole", () -> paths.pole(a, b), () -> model.pole(a, b));
        }
    }

    private void goOnBoth() {
        int turn = number(-3, 3);
        int steps = dice.nextInt(12) == 0 ? number(1, 200) : number(1, 12);
        boolean forwards = dice.nextInt(3) != 0;
        same("go", () -> paths.go(turn, steps, forwards), () -> model.go(turn, steps, forwards));
    }

    private void plan(int kind) {
        int plan = number(0, 3);
        int turn = number(-3, 3);
        int steps = dice.nextInt(4) == 0 ? number(1, 60) : number(1, 9);
        boolean forwards = dice.nextInt(3) != 0;
        if (kind < 18) {
            same("part", () -> paths.part(plan, turn, steps, forwards), () -> model.part(plan, turn, steps, forwards));
        } else if (kind == 18) {
            same("best", () -> paths.best(), () -> model.best());
        } else if (dice.nextInt(4) == 0) {
            same("clear", () -> paths.clear(plan), () -> model.clear(plan));
        } else {
            same("sweeps", () -> paths.sweeps(plan), () -> model.sweeps(plan));
        }
    }

    private void ask(int kind) {
        int body = number(0, 2);
        int four = number(0, 4);
        int axis = number(0, 1);
        int i = near ? number(-16, 15) : number(-32, 31);
        int j = near ? number(-16, 15) : number(-32, 31);
        int what = number(0, 2);
        if (kind < 25) {
            same("told", () -> paths.told(body, four), () -> model.told(body, four));
        } else if (kind < 28) {
            same("corner", () -> paths.corner(body, four, axis), () -> model.corner(body, four, axis));
        } else if (kind < 31) {
            same("swept", () -> paths.swept(), () -> model.swept());
        } else if (kind < 36) {
            same("cell", () -> paths.cell(i, j) ? 1 : 0, () -> model.cell(i, j));
        } else if (kind < 39) {
            same("clash", () -> paths.clash(what), () -> model.clash(what));
        } else {
            same("isStuck", () -> paths.isStuck() ? 1 : 0, () -> model.isStuck());
        }
    }
}
