/**
 * Part 4 of the document's terms (WISHES, DEALT, JUDGED) and promises 24 to 27: a test for each
 * sentence that names a bound of wishes, the dealing and the told row.
 */
public final class DealingBoundsTest {
    private static final int NONE = ServantRegistry.NONE;

    public static void main(String[] args) {
        wishesOfNoneSuch();
        digitsOfThoseThatAreThere();
        digitsTwice();
        zerosBehindAnotherDigit();
        rowsBelowZero();
        theLongestRows();
        rowsAsTheyCameLast();
        theFirstIsTheBest();
        wishedOnBothSides();
        dealtToAllOfThem();
        inNoneToday();
        fitToday();
        dealtOfNoneSuch();
        toldAsTold();
        judgedWithoutAny();
        judgedByServantsThenPlaces();
        wouldLeaveIfBetter();
        mayNotHaveIt();
        anotherOneHasIt();
        judgedOfTheGreatestNumbers();
        Check.end();
    }

    /** Servants and places that all fit one another. */
    private static ServantRegistry ready(int servants, int places) {
        return Given.registry(servants, 1, places);
    }

    /** All servants wish all places in their order, and the other way round. */
    private static ServantRegistry wishing(int servants, int places) {
        ServantRegistry r = ready(servants, places);
        for (int s = 0; s < servants; s++) {
            r.wish(0, s, first(places));
        }
        for (int p = 0; p < places; p++) {
            r.wish(1, p, first(servants));
        }
        return r;
    }

    private static long first(int many) {
        int[] numbers = new int[many];
        for (int i = 0; i < many; i++) {
            numbers[i] = i;
        }
        return Given.row(numbers);
    }

    /** "WISHES of a SERVANT (side 0; PLACES) or PLACE (1; SERVANTS)". */
    private static void wishesOfNoneSuch() {
        Bounds.due("wish's side", 0, 1, side -> ready(1, 1).wish(side, 0, 1) == 1);
        Bounds.due("wish's servant", 0, 23, s -> ready(24, 1).wish(0, s, 1) == 1);
        Bounds.due("wish's place", 0, 29, p -> ready(1, 30).wish(1, p, 1) == 1);
        Bounds.due("an empty row's servant", 0, 0, s -> ready(1, 2).wish(0, s, 0) == 0);
        Bounds.due("an empty row's place", 0, 0, p -> ready(2, 1).wish(1, p, 0) == 0);
        Bounds.none("wish's servant of none", s -> ready(0, 1).wish(0, s, 0) != NONE);
        Bounds.none("wish's place of none", p -> ready(1, 0).wish(1, p, 0) != NONE);
    }

    /** "each its number and 1"; "(a digit of none such". */
    private static void digitsOfThoseThatAreThere() {
        for (int many : new int[] {0, 1, 2, 12, 23, 24}) {
            for (int digit = 1; digit <= 31; digit++) {
                int due = digit <= many ? 1 : NONE;
                Check.due("digit " + digit + " of " + many + " servants", ready(many, 1).wish(1, 0, digit), due);
                Check.due("digit " + digit + " of " + many + " places", ready(1, many).wish(0, 0, digit), due);
            }
        }
        ServantRegistry r = ready(1, 30);
        Check.due("place 29", r.wish(0, 0, 30), 1);
        Check.due("a place 30", r.wish(0, 0, 31), NONE);
        Check.due("a place 30 behind another one", r.wish(0, 0, 32 + 31), NONE);
        Check.due("a place 30 ahead of another one", r.wish(0, 0, 31 * 32 + 1), NONE);
        ServantRegistry growing = ready(1, 1);
        Check.due("a place that isn't there yet", growing.wish(0, 0, 2), NONE);
        growing.place(0, 0, 1, 0, 0, NONE);
        Check.due("a place that is there now", growing.wish(0, 0, 2), 1);
    }

    /** "twice". */
    private static void digitsTwice() {
        ServantRegistry r = ready(3, 3);
        long[] twice = {Given.row(0, 0), Given.row(0, 1, 0), Given.row(1, 0, 0), Given.row(2, 1, 2),
            Given.row(0, 1, 2, 0), Given.row(2, 2, 2)};
        for (long row : twice) {
            Check.due("a servant's row " + row, r.wish(0, 0, row), NONE);
            Check.due("a place's row " + row, r.wish(1, 0, row), NONE);
        }
        Check.due("each once", r.wish(0, 0, Given.row(2, 0, 1)), 3);
        Check.due("in another servant's row again", r.wish(0, 1, Given.row(2, 0, 1)), 3);
    }

    /** "a 0 behind another digit". */
    private static void zerosBehindAnotherDigit() {
        ServantRegistry r = ready(3, 3);
        long[] zeros = {32, 64, 1024, 1025, 2 * 1024 + 1, 33 * 32, 3L << 60, 1L << 60, (1L << 60) + 2};
        for (long row : zeros) {
            Check.due("a servant's row " + row, r.wish(0, 0, row), NONE);
            Check.due("a place's row " + row, r.wish(1, 0, row), NONE);
        }
        Check.due("nothing but zeros", r.wish(0, 0, 0), 0);
        Check.due("zeros ahead of a digit", r.wish(0, 0, 1), 1);
        Check.due("zeros ahead of two", r.wish(0, 0, 33 + 1), 2);
    }

    /** "below 0". */
    private static void rowsBelowZero() {
        ServantRegistry r = ready(24, 30);
        for (long row : new long[] {-1, -2, -31, -32, Integer.MIN_VALUE, Long.MIN_VALUE, Long.MIN_VALUE + 1,
            Long.MIN_VALUE + 33, Long.MIN_VALUE | 1L << 60 | 2, -1L << 60}) {
            Check.due("a servant's row " + row, r.wish(0, 0, row), NONE);
            Check.due("a place's row " + row, r.wish(1, 0, row), NONE);
        }
        Check.due("the greatest row", r.wish(0, 0, Long.MAX_VALUE), NONE);
        Check.due("an int's greatest row", r.wish(0, 0, Integer.MAX_VALUE), NONE);
    }

    /** "a row as digits to the base 32, ... the first the highest: how many". */
    private static void theLongestRows() {
        for (int many = 1; many <= 13; many++) {
            ServantRegistry r = ready(24, 30);
            Check.due("a servant's row of " + many, r.wish(0, 0, first(many)), many);
            Check.due("a place's row of " + many, r.wish(1, 0, first(many)), many);
        }
        ServantRegistry r = ready(24, 30);
        long thirteen = Given.row(6, 29, 28, 27, 26, 25, 24, 23, 22, 21, 20, 19, 18);
        Check.due("thirteen, the first as great as can be", r.wish(0, 23, thirteen), 13);
        Check.due("thirteen servants", r.wish(1, 6, Given.row(0, 23, 22, 21, 20, 19, 18, 17, 16, 15, 14, 13, 12)), 13);
        Check.due("the first of thirteen", r.dealt(23), 6);
        r.wish(1, 6, 0);
        r.wish(1, 18, Given.row(0, 1, 2, 3, 4, 5, 6, 7, 8, 9, 10, 11, 23));
        Check.due("the last of thirteen on both sides", r.dealt(23), 18);
        Check.due("twelve of the greatest", r.wish(0, 0, Given.row(29, 28, 27, 26, 25, 24, 23, 22, 21, 20, 19, 18)), 12);
    }

    private static void rowsAsTheyCameLast() {
        ServantRegistry r = wishing(1, 3);
        Check.due("the first row", r.dealt(0), 0);
        r.wish(0, 0, Given.row(2, 1));
        Check.due("the next row", r.dealt(0), 2);
        r.wish(0, 0, 0);
        Check.due("an empty row", r.dealt(0), NONE);
        r.wish(0, 0, Given.row(1));
        Check.due("a row again", r.dealt(0), 1);
        r.wish(1, 1, 0);
        Check.due("the place's empty row", r.dealt(0), NONE);
    }

    /** "(each once; the first the best; those not in it aren't wished)". */
    private static void theFirstIsTheBest() {
        ServantRegistry r = ready(2, 2);
        r.wish(0, 0, Given.row(0, 1));
        r.wish(0, 1, Given.row(0, 1));
        r.wish(1, 0, Given.row(1, 0));
        r.wish(1, 1, Given.row(1, 0));
        Check.due("the one that the place likes better", r.dealt(1), 0);
        Check.due("the other", r.dealt(0), 1);
        r.wish(1, 0, Given.row(0, 1));
        Check.due("now the other is liked better", r.dealt(0), 0);
        Check.due("and the one goes to its second", r.dealt(1), 1);
        r.wish(0, 1, Given.row(0));
        Check.due("which it doesn't wish any more", r.dealt(1), NONE);
    }

    /** "none is with one not wished (on either side)". */
    private static void wishedOnBothSides() {
        for (int mask = 0; mask < 4; mask++) {
            ServantRegistry r = ready(1, 1);
            r.wish(0, 0, mask & 1);
            r.wish(1, 0, mask >> 1);
            Check.due("wishes " + mask, r.dealt(0), mask == 3 ? 0 : NONE);
            Check.due("none told, wishes " + mask, r.judge(), mask == 3 ? 0 : NONE);
            r.tell(0, 0);
            Check.due("told, wishes " + mask, r.judge(), mask == 3 ? NONE : -2);
        }
    }

    /** As many servants and places as there may be; each place likes the later servants better. */
    private static void dealtToAllOfThem() {
        ServantRegistry r = ready(24, 30);
        for (int s = 0; s < 24; s++) {
            r.wish(0, s, Given.row(s + 6, (s + 1) % 24 + 6));
        }
        for (int p = 6; p < 30; p++) {
            r.wish(1, p, Given.row((p - 6 + 23) % 24, p - 6));
        }
        for (int s = 0; s < 24; s++) {
            Check.due("its best place", r.dealt(s), s + 6);
        }
        r.wish(0, 23, Given.row(6));
        for (int s = 0; s < 24; s++) {
            Check.due("all go on by one", r.dealt(s), (s + 1) % 24 + 6);
        }
        for (int s = 0; s < 24; s++) {
            r.tell(s, (s + 1) % 24 + 6);
        }
        Check.due("none would leave it", r.judge(), NONE);
    }

    /** "PLACES in which nobody is IN TODAY, as KNOWN, SERVANTS that are IN none". */
    private static void inNoneToday() {
        ServantRegistry r = wishing(3, 3);
        r.lag(0, 5);
        r.day(10);
        r.placing(0, 0, 10);
        r.day(14);
        Check.due("not known by today", r.dealt(0), 0);
        r.day(15);
        Check.due("known by today: the servant", r.dealt(0), NONE);
        Check.due("known by today: the place", r.dealt(1), 1);
        Check.due("and the third", r.dealt(2), 2);
        r.leave(0, 15, 0, 0);
        r.day(19);
        Check.due("left, not known by today", r.dealt(0), NONE);
        r.day(20);
        Check.due("left, known by today", r.dealt(0), 0);
        r.lag(0, 0);
        r.placing(2, 1, 20);
        Check.due("placed today: the servant", r.dealt(2), NONE);
        Check.due("placed today: the place", r.dealt(1), 2);
        r.undo(1);
        Check.due("undone today: the servant", r.dealt(2), 2);
        Check.due("undone today: the place", r.dealt(1), 1);
        r.placing(2, 1, 5);
        r.leave(2, 20, 0, 0);
        Check.due("left today", r.dealt(2), 2);
    }

    /** "FIT TODAY 0; others take no part". */
    private static void fitToday() {
        ServantRegistry r = ready(0, 0);
        r.servant(0, 1, 0, 0);
        r.place(0, 0, 100, 2, 0, NONE);
        r.place(0, 0, 100, 0, 1, NONE);
        r.place(0, 0, 100, 0, 0, 1);
        r.place(0, 0, 99, 0, 0, NONE);
        r.place(0, 1, 1, 0, 0, NONE);
        Given.withRules(r, "least kitchen 100;");
        r.wish(0, 0, first(5));
        for (int p = 0; p < 5; p++) {
            r.wish(1, p, 1);
        }
        Check.due("the first that it fits", r.dealt(0), 4);
        r.day(364);
        Check.due("too young today", r.dealt(0), 4);
        r.day(365);
        Check.due("old enough today", r.dealt(0), 1);
        Given.withRules(r, "bar church;age kitchen 2;");
        Check.due("too young by today's rules", r.dealt(0), 4);
        Given.withRules(r, "bar church;least kitchen 999 if age=1 and wage=100;");
        Check.due("by today's least", r.dealt(0), 3);
    }

    /** "DEALT: the PLACE of a SERVANT. NONE: none, none such." */
    private static void dealtOfNoneSuch() {
        ServantRegistry r = wishing(3, 3);
        Bounds.due("dealt's servant", 0, 2, s -> r.dealt(s) != NONE);
        for (int s = 0; s < 3; s++) {
            Check.due("the place of servant " + s, r.dealt(s), s);
        }
        Bounds.none("dealt's servant of none", s -> ready(0, 1).dealt(s) != NONE);
        Check.due("without a place", ready(1, 0).dealt(0), NONE);
        Check.due("more servants than places", wishing(3, 2).dealt(2), NONE);
    }

    /** "a SERVANT has a PLACE (NONE: none): true; false: not as told". */
    private static void toldAsTold() {
        Bounds.due("tell's servant", 0, 23, s -> ready(24, 1).tell(s, 0));
        Bounds.due("tell's place", NONE, 29, p -> ready(1, 30).tell(0, p));
        Bounds.due("tell's place of none", NONE, NONE, p -> ready(1, 0).tell(0, p));
        Bounds.none("tell's servant of none", s -> ready(0, 1).tell(s, NONE));
        ServantRegistry r = wishing(2, 2);
        r.tell(0, 0);
        r.tell(1, 1);
        Check.due("a row that none would leave", r.judge(), NONE);
        Check.due("refused", r.tell(0, 2), false);
        Check.due("refused too", r.tell(2, 0), false);
        Check.due("the row stands", r.judge(), NONE);
        Check.due("none", r.tell(1, NONE), true);
        Check.due("one is without", r.judge(), 101);
    }

    /** "NONE: none would". */
    private static void judgedWithoutAny() {
        Check.due("nobody at all", new ServantRegistry().judge(), NONE);
        Check.due("servants alone", ready(24, 0).judge(), NONE);
        Check.due("places alone", ready(0, 30).judge(), NONE);
        Check.due("without wishes", ready(24, 30).judge(), NONE);
    }

    /** "the first PAIR (by SERVANTS, then PLACES) that would leave". */
    private static void judgedByServantsThenPlaces() {
        ServantRegistry r = ready(3, 3);
        r.wish(0, 2, Given.row(0));
        r.wish(1, 0, Given.row(2));
        Check.due("the only pair", r.judge(), 200);
        r.wish(0, 1, Given.row(2, 1, 0));
        r.wish(1, 2, Given.row(1));
        Check.due("a lesser servant", r.judge(), 102);
        r.wish(1, 1, Given.row(1));
        Check.due("a lesser place, though it isn't the best", r.judge(), 101);
        r.wish(1, 0, Given.row(2, 1, 0));
        r.wish(0, 1, Given.row(2, 1, 0));
        Check.due("the least place", r.judge(), 100);
        r.tell(1, 2);
        Check.due("it likes what it has better", r.judge(), 200);
    }

    /** "each of which is without, or likes the other better than what it has". */
    private static void wouldLeaveIfBetter() {
        ServantRegistry r = wishing(2, 2);
        r.tell(0, 1);
        Check.due("the servant likes the first better", r.judge(), 0);
        r.tell(1, 0);
        Check.due("both like one another better", r.judge(), 0);
        r.wish(1, 0, Given.row(1, 0));
        Check.due("the place likes what it has better", r.judge(), NONE);
        r.tell(1, NONE);
        Check.due("the place is without", r.judge(), 0);
        r.tell(0, 0);
        Check.due("the place likes the other better, which is without", r.judge(), 100);
        r.tell(1, 1);
        Check.due("it likes the first better still", r.judge(), 100);
        r.wish(0, 1, Given.row(1, 0));
        Check.due("it likes what it has better", r.judge(), NONE);
    }

    /** "-2 - s: SERVANT s (the least) has a PLACE that it may not have". */
    private static void mayNotHaveIt() {
        for (int s : new int[] {0, 1, 22, 23}) {
            ServantRegistry r = ready(24, 30);
            r.tell(s, 29);
            Check.due("not wished by servant " + s, r.judge(), -2 - s);
            r.wish(0, s, 30);
            Check.due("not wished by the place", r.judge(), -2 - s);
            r.wish(1, 29, s + 1);
            Check.due("wished on both sides", r.judge(), NONE);
            r.placing(s, 0, 0);
            Check.due("the servant is in one", r.judge(), -2 - s);
            r.undo(0);
            Check.due("it isn't any more", r.judge(), NONE);
            r.placing((s + 1) % 24, 29, 0);
            Check.due("the place is filled", r.judge(), -2 - s);
            r.undo(1);
            Check.due("it isn't filled any more", r.judge(), NONE);
            Given.withRules(r, "age butler 99;");
            Check.due("unfit today", r.judge(), -2 - s);
        }
        ServantRegistry r = wishing(3, 3);
        r.tell(2, 2);
        r.wish(0, 2, 1);
        Check.due("ahead of a lesser pair that would leave", r.judge(), -4);
        r.tell(1, 1);
        r.wish(0, 1, 1);
        Check.due("the least of two", r.judge(), -3);
    }

    /** "or that another one (with a lesser number) has". */
    private static void anotherOneHasIt() {
        ServantRegistry r = wishing(3, 3);
        r.tell(0, 1);
        r.tell(2, 1);
        Check.due("the greater number", r.judge(), -4);
        r.tell(1, 1);
        Check.due("the second of three", r.judge(), -3);
        r.tell(0, NONE);
        Check.due("the third of the rest", r.judge(), -4);
        r.tell(2, NONE);
        Check.due("one alone", r.judge() >= NONE, true);
        r.tell(0, 1);
        r.wish(0, 0, 1);
        Check.due("the lesser one may not have it", r.judge(), -2);
    }

    private static void judgedOfTheGreatestNumbers() {
        ServantRegistry r = ready(24, 30);
        r.wish(0, 23, 30);
        r.wish(1, 29, 24);
        Check.due("100 times the servant and the place", r.judge(), 2329);
        r.tell(23, 29);
        Check.due("they have one another", r.judge(), NONE);
        r.tell(22, 29);
        Check.due("-2 - 22", r.judge(), -24);
    }
}
