/** Part 4 of the document's terms (CHAIN) and promises 29 to 32: a test for each sentence with a bound. */
public final class ChainBoundsTest {
    private static final int NONE = ServantRegistry.NONE;

    public static void main(String[] args) {
        upToSixPlaces();
        upToSixServants();
        emptyAsTold();
        freeAsTold();
        clearedRows();
        zeroEmptyDaysAtLeast();
        asManyAsCanBe();
        fewestEmptyDays();
        theLeastRow();
        aPlaceBetweenThatNobodyFits();
        fewerPlacesThanBefore();
        noneIsTheGreatest();
        fitTodayAlone();
        theGreatestDays();
        chainOfNoneSuch();
        Check.end();
    }

    /** Servant s has the skill s alone, so that places can want it. */
    private static ServantRegistry ready(int servants, int places) {
        ServantRegistry r = Given.registry(0, 1, places);
        for (int s = 0; s < servants; s++) {
            r.servant(-9000, 1 << s % 8, 0, 0);
        }
        return r;
    }

    private static void due(String when, ServantRegistry r, int many, int days, int... row) {
        Check.due(when + ": how many", r.chain(0), many);
        Check.due(when + ": days", r.chain(1), days);
        for (int k = 0; k < row.length; k++) {
            Check.due(when + ": place " + k, r.chain(10 + k), row[k]);
        }
        Check.due(when + ": no place more", r.chain(10 + row.length), NONE);
    }

    /** "up to 6 empty PLACES"; "how many. NONE, doing nothing: not as told, it's there, 6 are." */
    private static void upToSixPlaces() {
        ServantRegistry r = ready(8, 8);
        for (int i = 0; i < 6; i++) {
            Check.due("empty " + i, r.empty(7 - i, 10 * i), i + 1);
            Check.due("it's there", r.empty(7 - i, 10 * i), NONE);
            Check.due("it's there with another day", r.empty(7 - i, 999), NONE);
        }
        Check.due("a seventh", r.empty(0, 0), NONE);
        Check.due("a seventh, though it's there", r.empty(7, 0), NONE);
        r.free(0, 50);
        due("the days as they were told first", r, 1, 0, NONE, NONE, NONE, NONE, NONE, 0);
        Check.due("six and one are there", r.clear(), 7);
    }

    /** "up to 6 SERVANTS that are free from DAYS on". */
    private static void upToSixServants() {
        ServantRegistry r = ready(8, 8);
        for (int i = 0; i < 6; i++) {
            Check.due("free " + i, r.free(7 - i, 60 - 10 * i), i + 1);
            Check.due("it's there", r.free(7 - i, 60 - 10 * i), NONE);
            Check.due("it's there with another day", r.free(7 - i, 0), NONE);
        }
        Check.due("a seventh", r.free(0, 0), NONE);
        Check.due("a seventh, though it's there", r.free(7, 0), NONE);
        r.empty(0, 9);
        due("the one that is free first", r, 1, 1, 2);
        Check.due("six and one are there", r.clear(), 7);
    }

    /** "A PLACE for the CHAIN is empty from a DAY (0 to 1,999) on". */
    private static void emptyAsTold() {
        Bounds.due("empty's place", 0, 29, p -> ready(0, 30).empty(p, 0) == 1);
        Bounds.due("empty's day", 0, 1999, day -> ready(0, 1).empty(0, day) == 1);
        Bounds.none("empty's place of none", p -> ready(1, 0).empty(p, 0) != NONE);
    }

    /** "A SERVANT for it is free from a DAY (0 to 1,999) on: likewise." */
    private static void freeAsTold() {
        Bounds.due("free's servant", 0, 23, s -> ready(24, 0).free(s, 0) == 1);
        Bounds.due("free's day", 0, 1999, day -> ready(1, 0).free(0, day) == 1);
        Bounds.none("free's servant of none", s -> ready(0, 1).free(s, 0) != NONE);
    }

    /** "CHAIN's rows are empty: how many were there." */
    private static void clearedRows() {
        ServantRegistry r = ready(8, 8);
        Check.due("none at first", r.clear(), 0);
        for (int many = 0; many <= 6; many++) {
            for (int i = 0; i < many; i++) {
                r.empty(i, 5);
                r.free(i + 1, 5);
            }
            Check.due("as many as there were", r.clear(), 2 * many);
            Check.due("none any more", r.clear(), 0);
            due("cleared", r, 0, 0);
        }
        for (int i = 0; i < 6; i++) {
            Check.due("places again", r.empty(i, 7), i + 1);
            Check.due("servants again", r.free(i, 7), i + 1);
        }
        due("six again", r, 6, 0, 0, 1, 2, 3, 4, 5);
        Check.due("twelve", r.clear(), 12);
        r.empty(3, 7);
        Check.due("a place alone", r.clear(), 1);
        r.free(3, 7);
        Check.due("a servant alone", r.clear(), 1);
        r.empty(3, 7);
        due("a place alone, nobody free", r, 0, 0, NONE);
    }

    /** "(from when it's empty to when the SERVANT is free, 0 at least)". */
    private static void zeroEmptyDaysAtLeast() {
        int[][] days = {{0, 0, 0}, {0, 1, 1}, {1, 0, 0}, {5, 4, 0}, {5, 5, 0}, {5, 6, 1}, {0, 1999, 1999},
            {1999, 0, 0}, {1999, 1999, 0}, {1998, 1999, 1}};
        for (int[] of : days) {
            ServantRegistry r = ready(1, 1);
            r.empty(0, of[0]);
            r.free(0, of[1]);
            due("empty from " + of[0] + ", free from " + of[1], r, 1, of[2], 0);
        }
        ServantRegistry r = ready(2, 2);
        r.empty(0, 100);
        r.empty(1, 0);
        r.free(0, 0);
        r.free(1, 50);
        due("days ahead aren't counted against others", r, 2, 0, 1, 0);
    }

    /** "as many as can be, of these the fewest EMPTY DAYS". */
    private static void asManyAsCanBe() {
        ServantRegistry r = ready(2, 1);
        r.place(0, 0, 1, 1, 0, NONE);
        r.empty(0, 0);
        r.empty(1, 0);
        r.free(0, 0);
        due("one servant: the first place of two", r, 1, 0, 0, NONE);
        r.free(1, 1999);
        due("two, though it costs 1999 days", r, 2, 1999, 1, 0);
        ServantRegistry six = ready(6, 0);
        for (int p = 0; p < 6; p++) {
            six.place(0, 0, 1, 1 << (p + 1) % 6, 0, NONE);
            six.empty(p, 0);
            six.free(p, 1999);
        }
        due("each fits one alone", six, 6, 6 * 1999, 1, 2, 3, 4, 5, 0);
    }

    private static void fewestEmptyDays() {
        ServantRegistry r = ready(3, 3);
        r.empty(0, 0);
        r.empty(1, 10);
        r.empty(2, 20);
        r.free(0, 20);
        r.free(1, 10);
        r.free(2, 0);
        due("none is empty for a day", r, 3, 0, 2, 1, 0);
        ServantRegistry one = ready(1, 3);
        one.empty(0, 0);
        one.empty(1, 11);
        one.empty(2, 10);
        one.free(0, 20);
        due("the place that was empty last", one, 1, 9, NONE, 0, NONE);
        ServantRegistry many = ready(4, 1);
        many.empty(0, 5);
        many.free(0, 9);
        many.free(1, 7);
        many.free(2, 8);
        many.free(3, 7);
        due("the servant that is free first, the least of two", many, 1, 2, 1);
    }

    /** "of several the least row (by PLACES". */
    private static void theLeastRow() {
        ServantRegistry r = ready(8, 8);
        int[] places = {5, 2, 7, 0, 1, 3};
        int[] servants = {6, 3, 0, 7, 1, 4};
        for (int i = 0; i < 6; i++) {
            r.empty(places[i], 0);
            r.free(servants[i], 0);
        }
        due("servants by their numbers, places as told", r, 6, 0, 0, 1, 3, 4, 6, 7);
        ServantRegistry q = ready(3, 3);
        for (int i = 0; i < 3; i++) {
            q.empty(2 - i, 10 * i);
            q.free(2 - i, 20);
        }
        due("all givings cost the same", q, 3, 30, 0, 1, 2);
        ServantRegistry back = ready(3, 3);
        for (int i = 0; i < 3; i++) {
            back.empty(i, 20 - 10 * i);
            back.free(i, 20);
        }
        due("all givings cost the same, the first place empty last", back, 3, 30, 0, 1, 2);
    }

    private static void aPlaceBetweenThatNobodyFits() {
        ServantRegistry r = ready(2, 1);
        r.place(0, 0, 1, 128, 0, NONE);
        r.place(0, 0, 1, 1, 0, NONE);
        for (int i = 0; i < 3; i++) {
            r.empty(i, 0);
            r.free(i % 2, 0);
        }
        due("the third place wants servant 0", r, 2, 0, 1, NONE, 0);
    }

    /** What was found for longer rows doesn't matter for shorter ones. */
    private static void fewerPlacesThanBefore() {
        ServantRegistry r = ready(2, 1);
        r.place(0, 0, 1, 2, 0, NONE);
        r.empty(0, 0);
        r.empty(1, 0);
        r.free(0, 5);
        r.free(1, 0);
        due("two places", r, 2, 5, 0, 1);
        r.clear();
        r.empty(0, 0);
        r.free(0, 5);
        r.free(1, 0);
        due("one place", r, 1, 0, 1);
    }

    /** "none the greatest)". */
    private static void noneIsTheGreatest() {
        ServantRegistry r = ready(24, 3);
        r.empty(2, 0);
        r.empty(1, 0);
        r.empty(0, 0);
        r.free(23, 0);
        due("one servant", r, 1, 0, 23, NONE, NONE);
        r.free(22, 0);
        due("two servants", r, 2, 0, 22, 23, NONE);
        r.free(0, 0);
        due("three servants", r, 3, 0, 0, 22, 23);
        ServantRegistry q = ready(2, 2);
        q.place(0, 0, 1, 2, 0, NONE);
        q.empty(0, 0);
        q.empty(1, 0);
        q.empty(2, 0);
        q.free(0, 0);
        q.free(1, 0);
        due("the last place wants servant 1", q, 2, 0, 0, 1, NONE);
    }

    /** "(FIT TODAY 0 alone, each once)". */
    private static void fitTodayAlone() {
        ServantRegistry r = Given.registry(0, 1, 0);
        r.servant(0, 0, 0, 0);
        r.place(0, 0, 100, 0, 1, NONE);
        r.place(0, 1, 100, 0, 0, 3);
        r.empty(0, 0);
        r.empty(1, 0);
        r.free(0, 900);
        due("neither fits", r, 0, 0, NONE, NONE);
        r.day(364);
        due("neither fits the day before", r, 0, 0, NONE, NONE);
        r.day(365);
        due("old enough today", r, 1, 900, 0, NONE);
        Given.withRules(r, "bar church;least kitchen 101;");
        due("by today's rules", r, 1, 900, NONE, 0);
        r.placing(0, 1, 365);
        due("though it's in a place", r, 1, 900, NONE, 0);
    }

    private static void theGreatestDays() {
        ServantRegistry r = ready(6, 6);
        for (int i = 0; i < 6; i++) {
            r.empty(i, 0);
            r.free(i, 1999);
        }
        due("six times 1999", r, 6, 11994, 0, 1, 2, 3, 4, 5);
    }

    /** "how many PLACES are given (what 0), EMPTY DAYS of these (1), 10 + k ... NONE: none such." */
    private static void chainOfNoneSuch() {
        ServantRegistry none = new ServantRegistry();
        Bounds.due("chain's what of none", 0, 1, what -> none.chain(what) == 0);
        for (int many = 1; many <= 6; many++) {
            ServantRegistry r = ready(6, 6);
            for (int i = 0; i < many; i++) {
                r.empty(i, 0);
                r.free(i, 0);
            }
            Bounds.due("chain's what of " + many, 0, 1, what -> r.chain(what) != NONE);
            Bounds.due("chain's place of " + many, 10, 9 + many, what -> r.chain(what) != NONE);
        }
    }
}
