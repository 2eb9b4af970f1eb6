/** Numbers that look like random ones and are the same in every run of the tests. */
final class Dice {
    private long state;

    Dice(long seed) {
        state = seed * 2862933555777941757L + 3037000493L;
    }

    /** From 0 to one less than the number of sides. */
    int roll(int sides) {
        state = state * 6364136223846793005L + 1442695040888963407L;
        return (int) ((state >>> 33) % sides);
    }

    int between(int least, int most) {
        return least + roll(most - least + 1);
    }

    boolean isIn(int times) {
        return roll(times) == 0;
    }
}
