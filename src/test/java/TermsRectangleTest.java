/** "THE RECTANGLE of a body": its edges belong to it, at right angles and slanting; its CORNERS at the ends. */
public final class TermsRectangleTest {
    public static void main(String[] args) {
        Check check = new Check();
        edgesAtRightAngles(check);
        noFrontNoRear(check);
        edgesSlanting(check);
        justBesideTheEdge(check);
        cellsOnSlantingEdges(check);
        beyondTheCorners(check);
        cornersWithoutFrontOrRear(check);
        check.end();
    }

    /** Whether a pole is in the rectangle of a lorry that stands at 0, 0: by the clash at the start. */
    private static boolean isIn(int heading, int[] frontRearHalf, int x, int y) {
        SweptPaths paths = new SweptPaths();
        paths.pole(x, y);
        paths.start(0, 0, heading);
        paths.body(1, 0, frontRearHalf[0], frontRearHalf[1], frontRearHalf[2]);
        return paths.clash(0) == 0;
    }

    /** Heading 0, 16, 32, 48 with FRONT 7, REAR 5, HALF 3: on each edge, and one unit beyond it. */
    private static void edgesAtRightAngles(Check check) {
        int[] shape = {7, 5, 3};
        for (int quarter = 0; quarter < 4; quarter++) {
            int ax = quarter == 0 ? 1 : quarter == 2 ? -1 : 0;
            int ay = quarter == 1 ? 1 : quarter == 3 ? -1 : 0;
            int[][] points = {
                {7, 0, 1}, {8, 0, 0}, {-5, 0, 1}, {-6, 0, 0}, {0, 3, 1}, {0, 4, 0}, {0, -3, 1}, {0, -4, 0},
                {7, 3, 1}, {7, -3, 1}, {-5, -3, 1}, {-5, 3, 1}, {8, 3, 0}, {7, -4, 0}, {-6, -3, 0}, {-5, 4, 0}
            };
            for (int[] point : points) {
                int x = point[0] * ax - point[1] * ay;
                int y = point[0] * ay + point[1] * ax;
                String name = "heading " + 16 * quarter + ": " + point[0] + " ahead, " + point[1] + " aside";
                check.due(name, point[2] == 1, isIn(16 * quarter, shape, x, y));
            }
        }
    }

    /** FRONT 0 and REAR 0: a line across, HALF 1 to each side. */
    private static void noFrontNoRear(Check check) {
        int[] line = {0, 0, 1};
        check.due("the place itself", true, isIn(0, line, 0, 0));
        check.due("an end", true, isIn(0, line, 0, 1));
        check.due("the other end", true, isIn(0, line, 0, -1));
        check.due("beyond an end", false, isIn(0, line, 0, 2));
        check.due("ahead", false, isIn(0, line, 1, 0));
        check.due("behind", false, isIn(0, line, -1, 0));
        check.due("a slanting one: the place itself", true, isIn(5, line, 0, 0));
        check.due("a slanting one: aside, but ahead", false, isIn(5, line, 0, 1));
    }

    /** Heading 3 has (3920, 1189): (15, 16) is 19 times 4096 ahead, (-16, 15) so much aside; heading 2 alike with 9. */
    private static void edgesSlanting(Check check) {
        check.due("on the front", true, isIn(3, new int[] {19, 0, 20}, 15, 16));
        check.due("beyond the front", false, isIn(3, new int[] {18, 60, 20}, 15, 16));
        check.due("on the rear", true, isIn(3, new int[] {0, 19, 20}, -15, -16));
        check.due("beyond the rear", false, isIn(3, new int[] {60, 18, 20}, -15, -16));
        check.due("on the side", true, isIn(3, new int[] {0, 60, 19}, -16, 15));
        check.due("beyond the side", false, isIn(3, new int[] {60, 60, 18}, -16, 15));
        check.due("on the other side", true, isIn(3, new int[] {60, 0, 19}, 16, -15));
        check.due("beyond the other side", false, isIn(3, new int[] {60, 60, 18}, 16, -15));
        check.due("on the front of heading 18", true, isIn(18, new int[] {9, 0, 20}, -21, 5));
        check.due("beyond the front of heading 18", false, isIn(18, new int[] {8, 60, 20}, -21, 5));
    }

    /** Points that are less than one 100th of a unit inside or outside: they are found, and held against the sums. */
    private static void justBesideTheEdge(Check check) {
        int inside = 0;
        int outside = 0;
        for (int heading = 0; heading < 64; heading++) {
            int dx = Directions.dx(heading);
            int dy = Directions.dy(heading);
            for (int x = -30; x <= 30; x += 3) {
                for (int y = -30; y <= 30; y++) {
                    int along = x * dx + y * dy;
                    int off = Math.floorMod(along + 40, 4096) - 40;
                    int front = Math.floorDiv(along + 40, 4096);
                    if (off == 0 || off > 40 || front < 0 || Math.abs(y * dx - x * dy) > 20 * 4096) {
                        continue;
                    }
                    check.due("heading " + heading + ", FRONT " + front + ", pole " + x + ", " + y, off < 0,
                            isIn(heading, new int[] {front, 60, 20}, x, y));
                    inside += off < 0 ? 1 : 0;
                    outside += off > 0 ? 1 : 0;
                }
            }
        }
        check.due("there are some inside", true, inside > 20);
        check.due("there are some outside", true, outside > 20);
    }

    private static boolean sweepsTheMiddle(int x, int y, int heading, int[] frontRearHalf) {
        SweptPaths paths = new SweptPaths();
        paths.body(1, 0, frontRearHalf[0], frontRearHalf[1], frontRearHalf[2]);
        paths.start(x, y, heading);
        return paths.cell(0, 0);
    }

    /** The same exact points as for poles: the middle of the cell (0, 0) is at (4, 4). */
    private static void cellsOnSlantingEdges(Check check) {
        check.due("on the front", true, sweepsTheMiddle(4 - 15, 4 - 16, 3, new int[] {19, 0, 20}));
        check.due("beyond the front", false, sweepsTheMiddle(4 - 15, 4 - 16, 3, new int[] {18, 60, 20}));
        check.due("on the rear", true, sweepsTheMiddle(4 + 15, 4 + 16, 3, new int[] {0, 19, 20}));
        check.due("beyond the rear", false, sweepsTheMiddle(4 + 15, 4 + 16, 3, new int[] {60, 18, 20}));
        check.due("on the side", true, sweepsTheMiddle(4 + 16, 4 - 15, 3, new int[] {0, 60, 19}));
        check.due("beyond the side", false, sweepsTheMiddle(4 + 16, 4 - 15, 3, new int[] {60, 60, 18}));
        check.due("on the other side", true, sweepsTheMiddle(4 - 16, 4 + 15, 3, new int[] {60, 0, 19}));
        check.due("beyond the other side", false, sweepsTheMiddle(4 - 16, 4 + 15, 3, new int[] {60, 60, 18}));
    }

    /**
     * DX and DY of heading 1 are a little short of 4096, so its rectangle reaches beyond its corners: behind one step
     * of 1 from (7, 1) the middle of the cell (8, 0), 17 to the right of the farthest corner, is in it. The same
     * mirrored, to the left, up and down.
     */
    private static void beyondTheCorners(Check check) {
        int[][] ways = {
            {7, 1, 1, 8, 0}, {-7, 1, 31, -9, 0}, {1, 7, 15, 0, 8}, {1, -7, 49, 0, -9},
            {7, -1, 63, 8, -1}, {-7, -1, 33, -9, -1}, {-1, 7, 17, -1, 8}, {-1, -7, 47, -1, -9}
        };
        for (int[] way : ways) {
            for (int turned = 0; turned < 2; turned++) {
                SweptPaths paths = new SweptPaths();
                paths.body(1, 0, turned == 0 ? 60 : 0, turned == 0 ? 0 : 60, 3);
                paths.step(1);
                paths.start(way[0], way[1], (way[2] + 32 * turned) % 64);
                paths.go(0, 1, turned == 0);
                String name = "cell(" + way[3] + ", " + way[4] + ") beyond the corners of heading " + way[2];
                check.due(name, true, paths.cell(way[3], way[4]));
                int axis = way[3] == 8 || way[3] == -9 ? 0 : 1;
                int middle = 8 * way[3 + axis] + 4;
                for (int k = 0; k <= 3; k++) {
                    int corner = Math.abs(paths.corner(0, k, axis));
                    check.due("the corner is nearer", true, corner < Math.abs(middle) * 4096);
                }
            }
        }
    }

    /** Corners 0 and 3 are one point then, and so are 1 and 2. */
    private static void cornersWithoutFrontOrRear(Check check) {
        SweptPaths paths = new SweptPaths();
        paths.body(1, 0, 0, 0, 20);
        paths.start(0, 0, 1);
        int[][] due = {{-20 * 401, 20 * 4076}, {20 * 401, -20 * 4076}, {20 * 401, -20 * 4076}, {-20 * 401, 20 * 4076}};
        for (int k = 0; k <= 3; k++) {
            check.due("x of corner " + k, due[k][0], paths.corner(0, k, 0));
            check.due("y of corner " + k, due[k][1], paths.corner(0, k, 1));
        }
    }
}
