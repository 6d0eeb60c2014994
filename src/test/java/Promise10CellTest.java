public final class Promise10CellTest {
    public static void main(String[] args) {
        Check check = new Check();
        everyCell(check);
        whichCells(check);
        slanting(check);
        border(check);
        beginsAnew(check);
        wrongInputs(check);
        check.end();
    }

    /** As many as are due, and these: the neighbours are asked too. */
    private static void only(Check check, SweptPaths paths, int[][] due) {
        check.due("how many", due.length, paths.swept());
        for (int[] near : due) {
            for (int i = Math.max(-32, near[0] - 1); i <= Math.min(31, near[0] + 1); i++) {
                for (int j = Math.max(-32, near[1] - 1); j <= Math.min(31, near[1] + 1); j++) {
                    check.due("cell(" + i + ", " + j + ")", isOneOf(due, i, j), paths.cell(i, j));
                }
            }
        }
    }

    private static boolean isOneOf(int[][] cells, int i, int j) {
        for (int[] cell : cells) {
            if (cell[0] == i && cell[1] == j) {
                return true;
            }
        }
        return false;
    }

    /** A start on the middle of each cell; a new object for each i, since an object is good for 512 calls. */
    private static void everyCell(Check check) {
        for (int i = -32; i <= 31; i++) {
            SweptPaths paths = new SweptPaths();
            paths.body(1, 0, 3, 3, 3);
            for (int j = -32; j <= 31; j++) {
                paths.start(8 * i + 4, 8 * j + 4, (i & 3) * 16);
                check.due("the cell stood on", true, paths.cell(i, j));
                check.due("no other one", 1, paths.swept());
                check.due("its mirror", i == j, paths.cell(j, i));
            }
        }
    }

    private static void whichCells(Check check) {
        SweptPaths paths = new SweptPaths();
        paths.body(1, 0, 12, 4, 4);
        paths.start(20, -12, 0);
        only(check, paths, new int[][] {{2, -2}, {3, -2}});
        paths.start(20, -12, 16);
        only(check, paths, new int[][] {{2, -2}, {2, -1}});
        paths.start(20, -12, 32);
        only(check, paths, new int[][] {{2, -2}, {1, -2}});
        paths.start(20, -12, 48);
        only(check, paths, new int[][] {{2, -2}, {2, -3}});
        paths.step(8);
        paths.go(0, 1, true);
        only(check, paths, new int[][] {{2, -2}, {2, -3}, {2, -4}});
    }

    /** At heading 8, where DX and DY are 2896: (n, n) is n 5792 ahead of 4096 times FRONT, (n, -n) as far aside. */
    private static void slanting(Check check) {
        SweptPaths paths = new SweptPaths();
        paths.body(1, 0, 23, 12, 1);
        paths.start(4, 4, 8);
        only(check, paths, new int[][] {{-1, -1}, {0, 0}, {1, 1}, {2, 2}});
        paths.start(4, 4, 40);
        only(check, paths, new int[][] {{1, 1}, {0, 0}, {-1, -1}, {-2, -2}});
        paths.start(4, 4, 24);
        only(check, paths, new int[][] {{1, -1}, {0, 0}, {-1, 1}, {-2, 2}});
    }

    private static void border(Check check) {
        SweptPaths paths = new SweptPaths();
        paths.body(1, 0, 4, 4, 4);
        paths.start(252, -252, 5);
        only(check, paths, new int[][] {{31, -32}});
        paths.start(-252, 252, 5);
        only(check, paths, new int[][] {{-32, 31}});
        paths.start(260, 4, 0);
        only(check, paths, new int[][] {});
        paths.start(-260, 4, 0);
        only(check, paths, new int[][] {});
    }

    private static void beginsAnew(Check check) {
        SweptPaths paths = new SweptPaths();
        paths.body(1, 0, 4, 4, 4);
        paths.start(4, 4, 0);
        paths.step(8);
        paths.go(0, 1, true);
        only(check, paths, new int[][] {{0, 0}, {1, 0}});
        paths.pole(4, 4);
        only(check, paths, new int[][] {{0, 0}, {1, 0}});
        paths.step(8);
        only(check, paths, new int[][] {{0, 0}});
    }

    private static void wrongInputs(Check check) {
        SweptPaths paths = new SweptPaths();
        check.refusesBeyond("i without a body", -32, 31, n -> paths.cell(n, 0));
        paths.body(1, 0, 60, 60, 20);
        check.refusesBeyond("i", -32, 31, n -> paths.cell(n, 0));
        check.refusesBeyond("j", -32, 31, n -> paths.cell(0, n));
    }
}
