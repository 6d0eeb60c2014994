/** "CELLS are (i, j), -32 .. 31 each, with their MIDDLE at (8 i + 4, 8 j + 4)", and which are SWEPT. */
public final class TermsCellsTest {
    public static void main(String[] args) {
        Check check = new Check();
        ends(check);
        noSuchCell(check);
        oneUnitOffTheMiddle(check);
        nothingComesRound(check);
        partlyOutside(check);
        atTheStartAndBehindSteps(check);
        none(check);
        all(check);
        check.end();
    }

    private static SweptPaths square(int half, int x, int y) {
        SweptPaths paths = new SweptPaths();
        paths.body(1, 0, half, half, half);
        paths.start(x, y, 0);
        return paths;
    }

    private static void ends(Check check) {
        int[] ends = {-32, -31, -1, 0, 30, 31};
        for (int i : ends) {
            for (int j : ends) {
                SweptPaths paths = square(1, 8 * i + 4, 8 * j + 4);
                check.due("one cell", 1, paths.swept());
                for (int otherI : ends) {
                    for (int otherJ : ends) {
                        check.due("cell(" + otherI + ", " + otherJ + ") when on " + i + ", " + j,
                                otherI == i && otherJ == j, paths.cell(otherI, otherJ));
                    }
                }
            }
        }
    }

    private static void noSuchCell(Check check) {
        SweptPaths paths = new SweptPaths();
        for (int bodies = 0; bodies <= 1; bodies++) {
            for (int other = -32; other <= 31; other += 63) {
                int there = other;
                check.refusesBeyond("i beside " + there, -32, 31, n -> paths.cell(n, there));
                check.refusesBeyond("j beside " + there, -32, 31, n -> paths.cell(there, n));
            }
            check.argument("both too small", () -> paths.cell(-33, -33));
            check.argument("both too large", () -> paths.cell(32, 32));
            paths.body(1, 0, 60, 60, 20);
            paths.start(250, 250, 0);
        }
    }

    /** A square of 1 to each side holds the middle when one unit off, and not when two. */
    private static void oneUnitOffTheMiddle(Check check) {
        for (int off = -2; off <= 2; off++) {
            int due = Math.abs(off) <= 1 ? 1 : 0;
            check.due("off by " + off + " in x", due, square(1, 12 + off, -12).swept());
            check.due("off by " + off + " in y", due, square(1, 12, -12 + off).swept());
        }
    }

    /** 512 units are 64 cells: a body so far off sweeps none, and not the one on the other side. */
    private static void nothingComesRound(Check check) {
        for (int far : new int[] {-512, 512}) {
            for (int from : new int[] {-252, -4, 4, 252}) {
                if (Math.abs(from + far) < 257) {
                    continue;
                }
                check.due("far in x", 0, square(1, from + far, 4).swept());
                check.due("far in y", 0, square(1, 4, from + far).swept());
                check.due("far in both", 0, square(1, from + far, from + far).swept());
            }
        }
        check.due("the first place outside", 0, square(1, 260, 260).swept());
        check.due("the first place outside", 0, square(1, -260, -260).swept());
    }

    /** Over each border: the cells inside are swept, those of the other side are not. */
    private static void partlyOutside(Check check) {
        int[][] borders = {
            {256, 4, 31, 0, -32, 0}, {-256, 4, -32, 0, 31, 0}, {4, 256, 0, 31, 0, -32}, {4, -256, 0, -32, 0, 31}
        };
        for (int[] border : borders) {
            SweptPaths paths = square(4, border[0], border[1]);
            check.due("one inside", 1, paths.swept());
            check.due("the one inside", true, paths.cell(border[2], border[3]));
            check.due("the one on the other side", false, paths.cell(border[4], border[5]));
        }
        SweptPaths corner = square(12, 256, -256);
        check.due("over a corner: 2 by 2", 4, corner.swept());
        for (int i = 30; i <= 31; i++) {
            for (int j = -32; j <= -31; j++) {
                check.due("a cell in the corner", true, corner.cell(i, j));
            }
        }
        check.due("another corner", false, corner.cell(-32, 31));
    }

    /** "was in the rectangle of a body at the start or behind a step": not on the way between. */
    private static void atTheStartAndBehindSteps(Check check) {
        SweptPaths paths = square(1, 4, 4);
        paths.step(16);
        check.due("at the start", true, paths.cell(0, 0));
        check.due("one", 1, paths.swept());
        paths.go(0, 2, true);
        check.due("of the start, still", true, paths.cell(0, 0));
        check.due("between", false, paths.cell(1, 0));
        check.due("behind the first step", true, paths.cell(2, 0));
        check.due("between", false, paths.cell(3, 0));
        check.due("behind the second step", true, paths.cell(4, 0));
        check.due("not further", false, paths.cell(6, 0));
        check.due("three", 3, paths.swept());
        paths.go(0, 2, false);
        check.due("each counts once", 3, paths.swept());
    }

    private static void none(Check check) {
        check.due("no body", 0, new SweptPaths().swept());
        SweptPaths paths = square(3, 0, 0);
        check.due("between four middles", 0, paths.swept());
        for (int i = -1; i <= 0; i++) {
            for (int j = -1; j <= 0; j++) {
                check.due("a cell round it", false, paths.cell(i, j));
            }
        }
    }

    /** Up and down in lanes some 27 units apart, wider than that, till there is no cell left. */
    private static void all(Check check) {
        SweptPaths paths = new SweptPaths();
        paths.body(1, 0, 60, 60, 20);
        paths.start(-250, -250, 16);
        for (int lane = 0; lane < 20; lane++) {
            int side = lane % 2 == 0 ? -1 : 1;
            paths.go(0, 125, true);
            paths.go(3 * side, 10, true);
            paths.go(2 * side, 1, true);
        }
        check.due("all cells", 4096, paths.swept());
        for (int n = -32; n <= 31; n++) {
            check.due("a cell of all", true, paths.cell(n, -1 - n));
            check.due("a cell of the first column", true, paths.cell(-32, n));
            check.due("a cell of the last column", true, paths.cell(31, n));
        }
        check.due("no more than all", true, paths.go(0, 125, true) > 2000 && paths.swept() == 4096);
        paths.start(0, 900, 0);
        check.due("none anew", 0, paths.swept());
    }
}
