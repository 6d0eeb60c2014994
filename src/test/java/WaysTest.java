/** The ways lead where their names say: else the tests that use them would look at nothing. */
public final class WaysTest {
    public static void main(String[] args) {
        Check check = new Check();
        int[] steps = {0, 9, 0, 4000, 3};
        for (int way = 0; way < Ways.COUNT; way++) {
            SweptPaths paths = new SweptPaths();
            Ways.go(paths, way);
            String name = " behind " + Ways.name(way);
            check.due("isStuck" + name, way == Ways.JACKKNIFE, paths.isStuck());
            check.due("a clash" + name, way == Ways.CLASH || way == Ways.ALL_STEPS, paths.clash(0) > 0);
            int made = paths.go(0, 1, true);
            if (way == Ways.JACKKNIFE || way == Ways.ALL_STEPS) {
                check.due("no step more" + name, made, paths.go(0, 1, true));
            } else {
                check.due("a step more" + name, steps[way] + 1, made);
            }
            check.due("a new pole is struck" + name, way == Ways.NEW_POLE, paths.clash(2) == 1);
        }
        check.end();
    }
}
