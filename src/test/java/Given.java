import java.nio.charset.StandardCharsets;

/** Registries that tests begin with, and what is told to them often. */
final class Given {
    private static final int NONE = ServantRegistry.NONE;

    private Given() {
    }

    /** Servants of 24 years without skills; all houses in town 0; places by houses and posts in turn. */
    static ServantRegistry registry(int servants, int houses, int places) {
        ServantRegistry r = new ServantRegistry();
        for (int s = 0; s < servants; s++) {
            r.servant(-9000, 0, 0, 0);
        }
        for (int h = 0; h < houses; h++) {
            r.house(0);
        }
        for (int p = 0; p < places; p++) {
            r.place(p % houses, p % 6, 300, 0, 0, NONE);
        }
        return r;
    }

    static ServantRegistry onDay(int day) {
        return onDay(new ServantRegistry(), day);
    }

    static ServantRegistry onDay(ServantRegistry r, int day) {
        if (day > 0) {
            r.day(day);
        }
        return r;
    }

    static ServantRegistry withRules(ServantRegistry r, String text) {
        Check.due("taken: " + text, Check.rules(r, text) != NONE, true);
        return r;
    }

    /** A row of wishes as wish() takes it. */
    static long row(int... numbers) {
        long row = 0;
        for (int number : numbers) {
            row = row * 32 + number + 1;
        }
        return row;
    }

    static byte[] bytes(String text) {
        return text.getBytes(StandardCharsets.ISO_8859_1);
    }
}
