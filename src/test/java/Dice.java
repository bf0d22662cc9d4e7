/** Numbers that look random and are the same in every run. */
final class Dice {
    private long state;

    Dice(long start) {
        state = start;
    }

    int below(int bound) {
        state = state * 6364136223846793005L + 1442695040888963407L;
        return (int) ((state >>> 33) % bound);
    }

    int any() {
        return below(1 << 16) << 16 | below(1 << 16);
    }
}
