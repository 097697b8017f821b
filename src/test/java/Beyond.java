/** Numbers that are none of a range: just beside it, the least and the greatest, and those that wrap into it. */
final class Beyond {
    /** Cast to an int it is 0. */
    static final long WRAP = 1L << 32;

    private Beyond() {
    }

    /** None of 0 .. size - 1. */
    static int[] ints(int size) {
        return new int[] {Integer.MIN_VALUE, -1, size, size + 1, Integer.MAX_VALUE};
    }

    /** None of least .. most. */
    static long[] longs(long least, long most) {
        return new long[] {Long.MIN_VALUE, -WRAP + least, least - 1, most + 1, WRAP + least, WRAP + most,
            Integer.MIN_VALUE, Integer.MAX_VALUE, Long.MAX_VALUE};
    }
}
