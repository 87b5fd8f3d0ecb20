/** A fixed row of numbers that looks drawn: the same seed always gives the same row. */
final class Draw {
    private long state;

    Draw(long seed) {
        state = seed;
    }

    int nextInt(int below) {
        state = state * 6364136223846793005L + 1442695040888963407L;
        return (int) ((state >>> 33) % below);
    }
}
