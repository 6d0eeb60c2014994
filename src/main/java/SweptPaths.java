import java.util.Arrays;

/**
 * The paths of a lorry and its trailers, step by step, in whole numbers: where each body is, its corners, which cells
 * are swept, which poles it strikes, how far a trailer stands askew; and which of some plans gets through with the
 * fewest cells.
 */
public final class SweptPaths {
    /** There is none. */
    public static final int NONE = -1;

    private static final int UNIT = 4096;
    private static final int FARTHEST = 1000;
    private static final int MOST_BODIES = 3;
    private static final int MOST_POLES = 20;
    private static final int MOST_PLANS = 4;
    private static final int MOST_PARTS = 6;
    private static final int MOST_STEPS = 4000;
    private static final int MOST_TURN = 3;
    private static final int MOST_ASKEW = 24;
    private static final int FIRST_CELL = -32;
    private static final int LAST_CELL = 31;

    private final Setting setting;
    private final Run live;
    // Plans are gone by a run of their own, so that asking for them changes nothing in the live one.
    private final Run trial;
    private final Plan[] plans;

    public SweptPaths() {
        setting = new Setting();
        live = new Run(setting);
        trial = new Run(setting);
        plans = new Plan[MOST_PLANS];
        for (int p = 0; p < MOST_PLANS; p++) {
            plans[p] = new Plan();
        }
    }

    public int body(int length, int hitch, int front, int rear, int half)
            throws IllegalArgumentException, IllegalStateException {
        demandWithin(length, 1, 200);
        demandWithin(hitch, 0, 200);
        demandWithin(front, 0, 60);
        demandWithin(rear, 0, 60);
        demandWithin(half, 1, 20);
        int number = setting.bodies;
        if (number >= MOST_BODIES) {
            throw new IllegalStateException("there are 3 bodies");
        }
        Shape shape = setting.shapes[number];
        shape.length = length;
        shape.hitch = hitch;
        shape.front = front;
        shape.rear = rear;
        shape.half = half;
        setting.bodies = number + 1;
        live.begin();
        return number;
    }

    public void start(int x, int y, int heading) throws IllegalArgumentException {
        demandWithin(x, -FARTHEST, FARTHEST);
        demandWithin(y, -FARTHEST, FARTHEST);
        demandWithin(heading, 0, Directions.LAST);
        setting.startX = x;
        setting.startY = y;
        setting.startHeading = heading;
        live.begin();
    }

    public int step(int length) throws IllegalArgumentException {
        demandWithin(length, 1, 20);
        int before = setting.stepLength;
        setting.stepLength = length;
        live.begin();
        return before;
    }

    public int pole(int x, int y) throws IllegalArgumentException, IllegalStateException {
        demandWithin(x, -FARTHEST, FARTHEST);
        demandWithin(y, -FARTHEST, FARTHEST);
        int number = setting.poles;
        if (number >= MOST_POLES) {
            throw new IllegalStateException("there are 20 poles");
        }
        setting.poleX[number] = x * UNIT;
        setting.poleY[number] = y * UNIT;
        setting.poles = number + 1;
        return number;
    }

    public int go(int turn, int steps, boolean forwards) throws IllegalArgumentException, IllegalStateException {
        demandWithin(turn, -MOST_TURN, MOST_TURN);
        demandWithin(steps, 1, 200);
        demandSomeBody();
        live.walk(turn, steps, forwards);
        return live.made;
    }

    public int told(int body, int what) throws IllegalArgumentException {
        demandWithin(body, 0, setting.bodies - 1);
        demandWithin(what, 0, 4);
        Pose pose = live.poses[body];
        switch (what) {
            case 0:
                return pose.x;
            case 1:
                return pose.y;
            case 2:
                return pose.heading;
            case 3:
                return live.askewOf(body);
            default:
                return pose.greatestAskew;
        }
    }

    public int corner(int body, int k, int axis) throws IllegalArgumentException {
        demandWithin(body, 0, setting.bodies - 1);
        demandWithin(k, 0, 3);
        demandWithin(axis, 0, 1);
        Shape shape = setting.shapes[body];
        Pose pose = live.poses[body];
        int dx = Directions.dx(pose.heading);
        int dy = Directions.dy(pose.heading);
        int ahead = k <= 1 ? shape.front : -shape.rear;
        int aside = k == 0 || k == 3 ? shape.half : -shape.half;
        return axis == 0 ? pose.x + ahead * dx - aside * dy : pose.y + ahead * dy + aside * dx;
    }

    public int swept() {
        return live.cells.count;
    }

    public boolean cell(int i, int j) throws IllegalArgumentException {
        demandWithin(i, FIRST_CELL, LAST_CELL);
        demandWithin(j, FIRST_CELL, LAST_CELL);
        return live.cells.has(i, j);
    }

    public int clash(int what) throws IllegalArgumentException {
        demandWithin(what, 0, 2);
        switch (what) {
            case 0:
                return live.clashStep;
            case 1:
                return live.clashBody;
            default:
                return live.clashPole;
        }
    }

    public boolean isStuck() {
        return live.stuck;
    }

    public int part(int plan, int turn, int steps, boolean forwards)
            throws IllegalArgumentException, IllegalStateException {
        demandWithin(plan, 0, MOST_PLANS - 1);
        demandWithin(turn, -MOST_TURN, MOST_TURN);
        demandWithin(steps, 1, 60);
        Plan chosen = plans[plan];
        if (!chosen.add(turn, steps, forwards)) {
            throw new IllegalStateException("the plan has 6 parts");
        }
        return chosen.parts;
    }

    public int clear(int plan) throws IllegalArgumentException {
        demandWithin(plan, 0, MOST_PLANS - 1);
        int before = plans[plan].parts;
        plans[plan].parts = 0;
        return before;
    }

    public int best() throws IllegalStateException {
        demandSomeBody();
        int chosen = NONE;
        int fewest = 0;
        for (int p = 0; p < MOST_PLANS; p++) {
            trial.follow(plans[p]);
            if (trial.isFaultless() && (chosen == NONE || trial.cells.count < fewest)) {
                chosen = p;
                fewest = trial.cells.count;
            }
        }
        return chosen;
    }

    public int sweeps(int plan) throws IllegalArgumentException, IllegalStateException {
        demandWithin(plan, 0, MOST_PLANS - 1);
        demandSomeBody();
        trial.follow(plans[plan]);
        return trial.cells.count;
    }

    private static void demandWithin(int number, int least, int greatest) {
        if (number < least || number > greatest) {
            throw new IllegalArgumentException("a number is out of its bounds");
        }
    }

    private void demandSomeBody() {
        if (setting.bodies == 0) {
            throw new IllegalStateException("there is no body");
        }
    }

    /** The 64 directions, round and round. */
    private static final class Directions {
        static final int LAST = 63;

        private static final int[] DX = {
            4096, 4076, 4017, 3920, 3784, 3612, 3406, 3166,
            2896, 2598, 2276, 1931, 1567, 1189, 799, 401,
            0, -401, -799, -1189, -1567, -1931, -2276, -2598,
            -2896, -3166, -3406, -3612, -3784, -3920, -4017, -4076,
            -4096, -4076, -4017, -3920, -3784, -3612, -3406, -3166,
            -2896, -2598, -2276, -1931, -1567, -1189, -799, -401,
            0, 401, 799, 1189, 1567, 1931, 2276, 2598,
            2896, 3166, 3406, 3612, 3784, 3920, 4017, 4076
        };

        static int round(int direction) {
            return direction & LAST;
        }

        static int dx(int direction) {
            return DX[direction & LAST];
        }

        static int dy(int direction) {
            return DX[(direction - 16) & LAST];
        }

        /** How far the heading before stands from the own one, -32 .. 31. */
        static int askew(int before, int own) {
            return ((before - own + 32) & LAST) - 32;
        }
    }

    /** What a body is, wherever it stands. */
    private static final class Shape {
        private static final long SQUARE = (long) UNIT * UNIT;

        int length = 1;
        int hitch;
        int front;
        int rear;
        int half;

        /** The two numbers are a point's u DX + v DY and v DX - u DY. */
        boolean holds(long along, long across) {
            return along >= -rear * SQUARE && along <= front * SQUARE
                    && across >= -half * SQUARE && across <= half * SQUARE;
        }

        /** How many directions the body turns by for a rest, rounded to 0. */
        int directionsIn(int rest) {
            return length < 1 ? 0 : rest / length;
        }
    }

    /** Where a body stands in a run. */
    private static final class Pose {
        int x;
        int y;
        int heading;
        int rest;
        int greatestAskew;
    }

    /** What has been told of the bodies, the start, the step and the poles: all runs share it. */
    private static final class Setting {
        final Shape[] shapes = {new Shape(), new Shape(), new Shape()};
        final int[] poleX = new int[MOST_POLES];
        final int[] poleY = new int[MOST_POLES];
        int bodies;
        int poles;
        int startX;
        int startY;
        int startHeading;
        int stepLength = 4;
    }

    /** Up to six parts, gone one behind the other. */
    private static final class Plan {
        final int[] turns = new int[MOST_PARTS];
        final int[] steps = new int[MOST_PARTS];
        final boolean[] forwards = new boolean[MOST_PARTS];
        int parts;

        /** Whether there was room for it. */
        boolean add(int turn, int stepsToGo, boolean ahead) {
            if (parts >= MOST_PARTS) {
                return false;
            }
            turns[parts] = turn;
            steps[parts] = stepsToGo;
            forwards[parts] = ahead;
            parts++;
            return true;
        }
    }

    /** The swept cells, a long for each j with a bit for each i; -32 .. -1 stand behind 0 .. 31 in both. */
    private static final class Cells {
        private static final int SIZE = 8 * UNIT;
        private static final int MIDDLE = 4 * UNIT;
        private static final int LAST_SLOT = 63;

        private final long[] rows = new long[LAST_SLOT + 1];
        int count;

        void wipe() {
            Arrays.fill(rows, 0L);
            count = 0;
        }

        boolean has(int i, int j) {
            long bit = 1L << (i & LAST_SLOT);
            return (rows[j & LAST_SLOT] & bit) != 0L;
        }

        /** Only cells near the body are looked at: this is the dearest work of a step. */
        void cover(Shape shape, Pose pose) {
            int dx = Directions.dx(pose.heading);
            int dy = Directions.dy(pose.heading);
            int aheadX = shape.front * dx;
            int behindX = -shape.rear * dx;
            int aheadY = shape.front * dy;
            int behindY = -shape.rear * dy;
            // DX and DY are rounded, so the rectangle reaches a little beyond its corners, always less than a unit.
            int spareX = shape.half * Math.abs(dy) + UNIT;
            int spareY = shape.half * Math.abs(dx) + UNIT;
            int firstI = firstFrom(pose.x + Math.min(aheadX, behindX) - spareX);
            int lastI = lastUpTo(pose.x + Math.max(aheadX, behindX) + spareX);
            int firstJ = firstFrom(pose.y + Math.min(aheadY, behindY) - spareY);
            int lastJ = lastUpTo(pose.y + Math.max(aheadY, behindY) + spareY);
            long u = middleOf(firstI) - pose.x;
            for (int j = firstJ; j <= lastJ; j++) {
                long v = middleOf(j) - pose.y;
                long along = u * dx + v * dy;
                long across = v * dx - u * dy;
                for (int i = firstI; i <= lastI; i++) {
                    if (shape.holds(along, across)) {
                        mark(i, j);
                    }
                    along += (long) SIZE * dx;
                    across -= (long) SIZE * dy;
                }
            }
        }

        private void mark(int i, int j) {
            int row = j & LAST_SLOT;
            long bit = 1L << (i & LAST_SLOT);
            if ((rows[row] & bit) == 0L) {
                rows[row] |= bit;
                count++;
            }
        }

        private static int middleOf(int index) {
            return index * SIZE + MIDDLE;
        }

        private static int firstFrom(int place) {
            return Math.max(FIRST_CELL, Math.floorDiv(place - MIDDLE + SIZE - 1, SIZE));
        }

        private static int lastUpTo(int place) {
            return Math.min(LAST_CELL, Math.floorDiv(place - MIDDLE, SIZE));
        }
    }

    /** One way of the bodies from the start on. */
    private static final class Run {
        final Pose[] poses = {new Pose(), new Pose(), new Pose()};
        final Cells cells = new Cells();
        int made;
        boolean stuck;
        int clashStep = NONE;
        int clashBody = NONE;
        int clashPole = NONE;
        private final Setting setting;

        Run(Setting setting) {
            this.setting = setting;
        }

        void begin() {
            made = 0;
            stuck = false;
            clashStep = NONE;
            clashBody = NONE;
            clashPole = NONE;
            cells.wipe();
            for (int b = 0; b < setting.bodies; b++) {
                Pose pose = poses[b];
                pose.heading = setting.startHeading;
                pose.rest = 0;
                pose.greatestAskew = 0;
            }
            poses[0].x = setting.startX * UNIT;
            poses[0].y = setting.startY * UNIT;
            placeTrailers();
            lookRound();
        }

        void follow(Plan plan) {
            begin();
            for (int n = 0; n < plan.parts; n++) {
                walk(plan.turns[n], plan.steps[n], plan.forwards[n]);
            }
        }

        void walk(int turn, int steps, boolean forwards) {
            int sign = forwards ? 1 : -1;
            for (int n = 0; n < steps && !stuck && made < MOST_STEPS; n++) {
                move(sign * turn, sign * setting.stepLength);
                measureAskew();
                lookRound();
            }
        }

        boolean isFaultless() {
            return !stuck && clashStep == NONE;
        }

        int askewOf(int body) {
            return body < 1 ? 0 : Directions.askew(poses[body - 1].heading, poses[body].heading);
        }

        private void move(int turn, int way) {
            Pose lorry = poses[0];
            lorry.x += way * Directions.dx(lorry.heading);
            lorry.y += way * Directions.dy(lorry.heading);
            lorry.heading = Directions.round(lorry.heading + turn);
            for (int b = 1; b < setting.bodies; b++) {
                swing(b, way);
            }
            placeTrailers();
            made++;
        }

        private void swing(int trailer, int way) {
            Pose pose = poses[trailer];
            Shape shape = setting.shapes[trailer];
            int rest = pose.rest + askewOf(trailer) * way;
            int grown = shape.directionsIn(rest);
            pose.heading = Directions.round(pose.heading + grown);
            pose.rest = rest - grown * shape.length;
        }

        private void placeTrailers() {
            for (int b = 1; b < setting.bodies; b++) {
                Pose before = poses[b - 1];
                Pose own = poses[b];
                int hitch = setting.shapes[b - 1].hitch;
                int length = setting.shapes[b].length;
                own.x = before.x - hitch * Directions.dx(before.heading) - length * Directions.dx(own.heading);
                own.y = before.y - hitch * Directions.dy(before.heading) - length * Directions.dy(own.heading);
            }
        }

        private void measureAskew() {
            for (int b = 1; b < setting.bodies; b++) {
                int size = Math.abs(askewOf(b));
                poses[b].greatestAskew = Math.max(poses[b].greatestAskew, size);
                if (size > MOST_ASKEW) {
                    stuck = true;
                }
            }
        }

        private void lookRound() {
            for (int b = 0; b < setting.bodies; b++) {
                cells.cover(setting.shapes[b], poses[b]);
                if (clashStep == NONE) {
                    lookForPoles(b);
                }
            }
        }

        private void lookForPoles(int body) {
            Shape shape = setting.shapes[body];
            Pose pose = poses[body];
            long dx = Directions.dx(pose.heading);
            long dy = Directions.dy(pose.heading);
            for (int p = 0; p < setting.poles; p++) {
                long u = setting.poleX[p] - pose.x;
                long v = setting.poleY[p] - pose.y;
                if (shape.holds(u * dx + v * dy, v * dx - u * dy)) {
                    clashStep = made;
                    clashBody = body;
                    clashPole = p;
                    return;
                }
            }
        }
    }
}
