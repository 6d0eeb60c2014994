/**
 * What can be asked of an object without changing it, to see whether a call changed something: of the cells only
 * those round the middle, since an object is good for 512 calls.
 */
final class Snapshot {
    static String of(SweptPaths paths, int bodies) {
        StringBuilder all = new StringBuilder();
        for (int b = 0; b < bodies; b++) {
            for (int what = 0; what <= 4; what++) {
                all.append(paths.told(b, what)).append(' ');
            }
            for (int k = 0; k <= 3; k++) {
                all.append(paths.corner(b, k, 0)).append(' ').append(paths.corner(b, k, 1)).append(' ');
            }
        }
        all.append("swept ").append(paths.swept()).append(' ');
        for (int i = -6; i <= 5; i++) {
            for (int j = -6; j <= 5; j++) {
                all.append(paths.cell(i, j) ? '#' : '.');
            }
        }
        for (int what = 0; what <= 2; what++) {
            all.append(' ').append(paths.clash(what));
        }
        return all.append(' ').append(paths.isStuck()).toString();
    }

    /** The plans' answers too: only where there is a body. */
    static String withPlans(SweptPaths paths, int bodies) {
        StringBuilder all = new StringBuilder(of(paths, bodies));
        for (int plan = 0; plan <= 3; plan++) {
            all.append(' ').append(paths.sweeps(plan));
        }
        return all.append(' ').append(paths.best()).toString();
    }

    private Snapshot() {
    }
}
