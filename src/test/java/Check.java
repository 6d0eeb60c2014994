/** What the tests share: it prints every answer that is not due, and ends with exit code 1 if there was one. */
final class Check {
    interface Call {
        long answer();
    }

    interface Act {
        void run();
    }

    private int looked = 0;
    private int wrong = 0;

    void due(String call, long want, long got) {
        looked++;
        if (got != want) {
            wrong++;
            System.out.println(call + " answered " + got + ", due is " + want);
        }
    }

    void due(String call, boolean want, boolean got) {
        due(call, want ? 1L : 0L, got ? 1L : 0L);
    }

    void argument(String call, Act act) {
        thrown(call, IllegalArgumentException.class, act);
    }

    void state(String call, Act act) {
        thrown(call, IllegalStateException.class, act);
    }

    /** Every number outside least .. greatest that is worth a try is refused. */
    void refusesBeyond(String call, int least, int greatest, java.util.function.IntConsumer act) {
        for (int number : new int[] {least - 1, greatest + 1, Integer.MIN_VALUE, Integer.MAX_VALUE}) {
            argument(call + " with " + number, () -> act.accept(number));
        }
    }

    private void thrown(String call, Class<?> want, Act act) {
        looked++;
        String got = "nothing";
        try {
            act.run();
        } catch (RuntimeException e) {
            if (e.getClass() == want) {
                return;
            }
            got = e.getClass().getName();
        }
        wrong++;
        System.out.println(call + " threw " + got + ", due is " + want.getName());
    }

    void end() {
        System.out.println(looked + " answers looked at, " + wrong + " not as due");
        if (wrong != 0 || looked == 0) {
            System.exit(1);
        }
    }
}
