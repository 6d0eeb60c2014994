import java.util.ArrayList;
import java.util.List;

/**
 * The document once more, as slowly and plainly as it can be said: every cell is looked at for every body behind every
 * step, and a trailer turns by one direction at a time.
 */
final class PlainModel {
    private final List<int[]> bodies = new ArrayList<>();
    private final List<int[]> poles = new ArrayList<>();
    private final List<List<int[]>> plans = new ArrayList<>();
    private int[] start = {0, 0, 0};
    private int step = 4;
    private Walk walk;

    PlainModel() {
        for (int p = 0; p < 4; p++) {
            plans.add(new ArrayList<>());
        }
        anew();
    }

    /** What comes of going from the start. */
    private final class Walk {
        final long[][] place = new long[bodies.size()][2];
        final long[] heading = new long[bodies.size()];
        final long[] rest = new long[bodies.size()];
        final long[] greatest = new long[bodies.size()];
        final boolean[][] swept = new boolean[64][64];
        int[] clash = {-1, -1, -1};
        int made = 0;
        boolean jackknifed = false;

        Walk(int polesThen) {
            for (int b = 0; b < bodies.size(); b++) {
                heading[b] = start[2];
            }
            if (!bodies.isEmpty()) {
                place[0][0] = start[0] * 4096L;
                place[0][1] = start[1] * 4096L;
            }
            settle(polesThen);
        }

        void stepOnce(int turn, int sign, int polesThen) {
            if (jackknifed || made == 4000) {
                return;
            }
            place[0][0] += sign * step * dx(heading[0]);
            place[0][1] += sign * step * dy(heading[0]);
            heading[0] = Math.floorMod(heading[0] + sign * turn, 64L);
            for (int b = 1; b < bodies.size(); b++) {
                rest[b] += sign * askew(b) * step;
                long length = bodies.get(b)[0];
                while (rest[b] >= length) {
                    rest[b] -= length;
                    heading[b] = Math.floorMod(heading[b] + 1, 64L);
                }
                while (rest[b] <= -length) {
                    rest[b] += length;
                    heading[b] = Math.floorMod(heading[b] - 1, 64L);
                }
            }
            made++;
            for (int b = 1; b < bodies.size(); b++) {
                greatest[b] = Math.max(greatest[b], Math.abs(askew(b)));
                jackknifed |= askew(b) < -24 || askew(b) > 24;
            }
            settle(polesThen);
        }

        long askew(int b) {
            long askew = b == 0 ? 0 : heading[b - 1] - heading[b];
            return askew > 31 ? askew - 64 : askew < -32 ? askew + 64 : askew;
        }

        private void settle(int polesThen) {
            for (int b = 1; b < bodies.size(); b++) {
                place[b][0] = place[b - 1][0] - bodies.get(b - 1)[1] * dx(heading[b - 1])
                        - bodies.get(b)[0] * dx(heading[b]);
                place[b][1] = place[b - 1][1] - bodies.get(b - 1)[1] * dy(heading[b - 1])
                        - bodies.get(b)[0] * dy(heading[b]);
            }
            for (int b = 0; b < bodies.size(); b++) {
                for (int i = -32; i <= 31; i++) {
                    for (int j = -32; j <= 31; j++) {
                        swept[i + 32][j + 32] |= isIn(b, 8 * i + 4, 8 * j + 4);
                    }
                }
                for (int p = 0; p < polesThen && clash[0] == -1; p++) {
                    if (isIn(b, poles.get(p)[0], poles.get(p)[1])) {
                        clash = new int[] {made, b, p};
                    }
                }
            }
        }

        private boolean isIn(int b, int unitX, int unitY) {
            long u = unitX * 4096L - place[b][0];
            long v = unitY * 4096L - place[b][1];
            long along = u * dx(heading[b]) + v * dy(heading[b]);
            long across = v * dx(heading[b]) - u * dy(heading[b]);
            int[] body = bodies.get(b);
            long square = 4096L * 4096L;
            return -body[3] * square <= along && along <= body[2] * square
                    && -body[4] * square <= across && across <= body[4] * square;
        }

        int count() {
            int count = 0;
            for (boolean[] row : swept) {
                for (boolean cell : row) {
                    count += cell ? 1 : 0;
                }
            }
            return count;
        }
    }

    private static long dx(long direction) {
        return Directions.dx((int) direction);
    }

    private static long dy(long direction) {
        return Directions.dy((int) direction);
    }

    private static void bound(int number, int least, int greatest) {
        if (number < least || number > greatest) {
            throw new IllegalArgumentException();
        }
    }

    private static void state(boolean good) {
        if (!good) {
            throw new IllegalStateException();
        }
    }

    private void anew() {
        walk = new Walk(poles.size());
    }

    long body(int length, int hitch, int front, int rear, int half) {
        bound(length, 1, 200);
        bound(hitch, 0, 200);
        bound(front, 0, 60);
        bound(rear, 0, 60);
        bound(half, 1, 20);
        state(bodies.size() < 3);
        bodies.add(new int[] {length, hitch, front, rear, half});
        anew();
        return bodies.size() - 1;
    }

    long start(int x, int y, int heading) {
        bound(x, -1000, 1000);
        bound(y, -1000, 1000);
        bound(heading, 0, 63);
        start = new int[] {x, y, heading};
        anew();
        return 0;
    }

    long step(int length) {
        bound(length, 1, 20);
        int was = step;
        step = length;
        anew();
        return was;
    }

    long pole(int x, int y) {
        bound(x, -1000, 1000);
        bound(y, -1000, 1000);
        state(poles.size() < 20);
        poles.add(new int[] {x, y});
        return poles.size() - 1;
    }

    long go(int turn, int steps, boolean forwards) {
        bound(turn, -3, 3);
        bound(steps, 1, 200);
        state(!bodies.isEmpty());
        for (int n = 0; n < steps; n++) {
            walk.stepOnce(turn, forwards ? 1 : -1, poles.size());
        }
        return walk.made;
    }

    long told(int body, int what) {
        bound(body, 0, bodies.size() - 1);
        bound(what, 0, 4);
        return new long[] {
            walk.place[body][0], walk.place[body][1], walk.heading[body], walk.askew(body), walk.greatest[body]
        }[what];
    }

    long corner(int body, int k, int axis) {
        bound(body, 0, bodies.size() - 1);
        bound(k, 0, 3);
        bound(axis, 0, 1);
        int[] shape = bodies.get(body);
        long front = new int[] {shape[2], shape[2], -shape[3], -shape[3]}[k];
        long half = new int[] {shape[4], -shape[4], -shape[4], shape[4]}[k];
        long dx = dx(walk.heading[body]);
        long dy = dy(walk.heading[body]);
        return walk.place[body][axis] + (axis == 0 ? front * dx + half * -dy : front * dy + half * dx);
    }

    long swept() {
        return walk.count();
    }

    long cell(int i, int j) {
        bound(i, -32, 31);
        bound(j, -32, 31);
        return walk.swept[i + 32][j + 32] ? 1 : 0;
    }

    long clash(int what) {
        bound(what, 0, 2);
        return walk.clash[what];
    }

    long isStuck() {
        return walk.jackknifed ? 1 : 0;
    }

    long part(int plan, int turn, int steps, boolean forwards) {
        bound(plan, 0, 3);
        bound(turn, -3, 3);
        bound(steps, 1, 60);
        state(plans.get(plan).size() < 6);
        plans.get(plan).add(new int[] {turn, steps, forwards ? 1 : -1});
        return plans.get(plan).size();
    }

    long clear(int plan) {
        bound(plan, 0, 3);
        int had = plans.get(plan).size();
        plans.get(plan).clear();
        return had;
    }

    long best() {
        state(!bodies.isEmpty());
        int best = -1;
        int fewest = Integer.MAX_VALUE;
        for (int p = 0; p < 4; p++) {
            Walk tried = tried(p);
            if (!tried.jackknifed && tried.clash[0] == -1 && tried.count() < fewest) {
                best = p;
                fewest = tried.count();
            }
        }
        return best;
    }

    long sweeps(int plan) {
        bound(plan, 0, 3);
        state(!bodies.isEmpty());
        return tried(plan).count();
    }

    private Walk tried(int plan) {
        Walk tried = new Walk(poles.size());
        for (int[] part : plans.get(plan)) {
            for (int n = 0; n < part[1]; n++) {
                tried.stepOnce(part[0], part[2], poles.size());
            }
        }
        return tried;
    }
}
