/** Numbers that are not allowed: just beyond the edges, ones that a shift or a cut would fold back, the extreme ints. */
final class Beyond {
    static final int[] USERS = {-1, 8, 9, 32, 256, 65536, -8, Integer.MIN_VALUE, Integer.MAX_VALUE};
    static final int[] PERMISSIONS = {-1, 12, 13, 32, 256, 65536, -12, Integer.MIN_VALUE, Integer.MAX_VALUE};
    static final int[] SETS = {-1, 4096, 4097, 8191, 65536, -4095, -4096, Integer.MIN_VALUE, Integer.MAX_VALUE};
    static final int[] COSTS = {-1, 101, 256, -100, Integer.MIN_VALUE, Integer.MAX_VALUE};
    static final int[] ONE_TO_EIGHT = {0, 9, -1, -8, 16, 256, Integer.MIN_VALUE, Integer.MAX_VALUE};

    private Beyond() {
    }

    /** Places of a list of so many. */
    static int[] places(int many) {
        return new int[] {-1, many, many + 1, many + 256, -many - 1, Integer.MIN_VALUE, Integer.MAX_VALUE};
    }

    /** Choices out of so many candidates, 14 or fewer. */
    static int[] choices(int many) {
        int first = 1 << many;
        return new int[] {-1, first, first + 1, 2 * first - 1, 1 << 14, 1 << 15, 1 << 30, Integer.MIN_VALUE,
            Integer.MIN_VALUE + 1, Integer.MAX_VALUE};
    }
}
