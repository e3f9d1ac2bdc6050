/** Numbers that look thrown and are always the same. */
final class Dice {
    private long state;

    Dice(long seed) {
        state = seed * 0x9E3779B97F4A7C15L + 0x632BE59BD9B4E019L;
    }

    int below(int n) {
        state = state * 6364136223846793005L + 1442695040888963407L;
        return (int) ((state >>> 33) % n);
    }

    int from(int least, int most) {
        return least + below(most - least + 1);
    }

    boolean oneIn(int n) {
        return below(n) == 0;
    }

    <T> T of(T[] all) {
        return all[below(all.length)];
    }
}
