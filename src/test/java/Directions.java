/** The DX and DY of the document's rows, for the tests' own sums. */
final class Directions {
    private static final int[] C = {
        4096, 4076, 4017, 3920, 3784, 3612, 3406, 3166, 2896, 2598, 2276, 1931, 1567, 1189, 799, 401, 0
    };

    static int dx(int direction) {
        int k = Math.floorMod(direction, 64);
        return k <= 16 ? C[k] : k <= 32 ? -C[32 - k] : k <= 48 ? -C[k - 32] : C[64 - k];
    }

    static int dy(int direction) {
        return dx(direction - 16);
    }

    private Directions() {
    }
}
