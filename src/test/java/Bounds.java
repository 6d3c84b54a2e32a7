import java.util.function.IntPredicate;

/** An argument's numbers at the bounds that the document tells for it, beyond them and far off. */
final class Bounds {
    private Bounds() {
    }

    /** Whether a call takes a number: from the least to the greatest one, and no other. */
    static void due(String sentence, int least, int most, IntPredicate taken) {
        int[] inside = {least, Math.min(least + 1, most), least + (most - least) / 2,
            Math.max(most - 1, least), most};
        for (int number : inside) {
            Check.due(sentence + ": " + number + " is taken", taken.test(number), true);
        }
        for (int number : beyond(least, most)) {
            Check.due(sentence + ": " + number + " is taken", taken.test(number), false);
        }
    }

    /** Whether a call takes no number at all. */
    static void none(String sentence, IntPredicate taken) {
        for (int number : new int[] {Integer.MIN_VALUE, -2, -1, 0, 1, 2, Integer.MAX_VALUE}) {
            Check.due(sentence + ": " + number + " is taken", taken.test(number), false);
        }
    }

    static int[] beyond(int least, int most) {
        return new int[] {Integer.MIN_VALUE, Integer.MIN_VALUE + 1, least - 1, most + 1,
            Integer.MAX_VALUE - 1, Integer.MAX_VALUE};
    }
}
