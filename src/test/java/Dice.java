/** Numbers that look thrown but are the same in every run. */
final class Dice {
    private long state;

    Dice(long seed) {
        state = seed * 0x9E3779B97F4A7C15L + 0x632BE59BD9B4E019L;
    }

    private int next() {
        state = state * 6364136223846793005L + 1442695040888963407L;
        return (int) (state >>> 33);
    }

    /** 0 .. most. */
    int upTo(int most) {
        return next() % (most + 1);
    }

    boolean oneIn(int n) {
        return upTo(n - 1) == 0;
    }

    int anyInt() {
        int[] odd = {Integer.MIN_VALUE, Integer.MAX_VALUE, -1, -2, 0, 1, 24, 40, 100, 1000, 32, 64};
        return oneIn(2) ? odd[upTo(odd.length - 1)] : next() - (1 << 30);
    }
}
