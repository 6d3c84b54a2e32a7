/**
 * Part 1 of the document's terms (KNOWN, IN, TWICE) and promises 10 to 13: a test for each sentence
 * that names a bound of what is known by a day.
 */
public final class PlacingBoundsTest {
    private static final int NONE = ServantRegistry.NONE;
    private static final int NONE_SUCH = -2_000_000_000;

    public static void main(String[] args) {
        knownFromTheDayToldAndTheLag();
        knownByTheLagAsItWas();
        knownBeyondTheLastDay();
        knownTillItsUndone();
        leftIsKnownLikewise();
        inFromItsBeginningToLeft();
        inTheOneThatBeganLast();
        ofOneDayToldLast();
        inOfNoneSuch();
        holderOfSeveralTheLeast();
        holderOfNoneSuch();
        twiceForADayTheyShare();
        twiceTheFirstPair();
        twiceAsKnown();
        twiceOfNoneSuch();
        placedOfNoneSuch();
        Check.end();
    }

    private static ServantRegistry lagged(int lag) {
        ServantRegistry r = Given.registry(2, 1, 3);
        r.lag(0, lag);
        return r;
    }

    /** "it's KNOWN from the DAY told and the LAG of the HOUSE's TOWN (as it was then) on". */
    private static void knownFromTheDayToldAndTheLag() {
        for (int lag : new int[] {0, 1, 15, 30}) {
            ServantRegistry r = Given.onDay(lagged(lag), 100);
            r.placing(0, 0, 90);
            Check.due("known from, lag " + lag, r.placed(0, 5), 100 + lag);
            Check.due("a day too early, lag " + lag, r.in(0, 90, 99 + lag), NONE);
            Check.due("on that day, lag " + lag, r.in(0, 90, 100 + lag), 0);
            Check.due("on the last day, lag " + lag, r.in(0, 90, 999), 0);
            Check.due("holder a day too early, lag " + lag, r.holder(0, 90, 99 + lag), NONE);
            Check.due("holder on that day, lag " + lag, r.holder(0, 90, 100 + lag), 0);
        }
        ServantRegistry r = new ServantRegistry();
        r.servant(-9000, 0, 0, 3);
        r.house(1);
        r.place(0, 0, 1, 0, 0, NONE);
        r.lag(3, 9);
        Check.due("not by the servant's town", r.placed(r.placing(0, 0, 0), 5), 0);
        r.lag(1, 4);
        Check.due("by the house's town", r.placed(r.placing(0, 0, 0), 5), 4);
    }

    private static void knownByTheLagAsItWas() {
        ServantRegistry r = Given.onDay(lagged(10), 50);
        r.placing(0, 0, 50);
        r.lag(0, 0);
        Check.due("told by the lag then", r.placed(0, 5), 60);
        Check.due("not known by 59", r.in(0, 50, 59), NONE);
        Check.due("known by 60", r.in(0, 50, 60), 0);
        r.lag(0, 30);
        Check.due("told by the lag then, still", r.placed(0, 5), 60);
        Check.due("known by 60, still", r.in(0, 50, 60), 0);
        r.lag(0, 3);
        r.leave(0, 50, 0, 0);
        r.lag(0, 20);
        Check.due("left by the lag then", r.placed(0, 6), 53);
    }

    private static void knownBeyondTheLastDay() {
        ServantRegistry r = Given.onDay(lagged(30), 999);
        r.placing(0, 0, 999);
        Check.due("known from 1029", r.placed(0, 5), 1029);
        Check.due("not on the last day", r.in(0, 999, 999), NONE);
        Check.due("there is no later day", r.in(0, 999, 1029), NONE);
        r.leave(0, 999, 0, 0);
        Check.due("left, known from 1029", r.placed(0, 6), 1029);
        r.lag(0, 0);
        r.placing(0, 1, 999);
        Check.due("known on the last day", r.in(0, 999, 999), 1);
    }

    /** "till it's UNDONE (from that DAY on it isn't)". */
    private static void knownTillItsUndone() {
        ServantRegistry r = Given.onDay(lagged(5), 100);
        r.placing(0, 0, 90);
        r.day(110);
        r.undo(0);
        Check.due("ahead of the letter", r.in(0, 90, 104), NONE);
        Check.due("with the letter", r.in(0, 90, 105), 0);
        Check.due("the day before it's undone", r.in(0, 90, 109), 0);
        Check.due("on the day it's undone", r.in(0, 90, 110), NONE);
        Check.due("on the last day", r.in(0, 90, 999), NONE);
        r.placing(1, 0, 90);
        r.undo(1);
        Check.due("undone on the day it's told, the day before", r.in(1, 90, 109), NONE);
        Check.due("undone on the day it's told", r.in(1, 90, 110), NONE);
        Check.due("undone ahead of its letter", r.in(1, 90, 115), NONE);
        r.placing(1, 0, 90);
        r.day(115);
        r.undo(2);
        Check.due("undone on its letter's day, the day before", r.in(1, 90, 114), NONE);
        Check.due("undone on its letter's day", r.in(1, 90, 115), NONE);
    }

    /** "KNOWN likewise" of LEFT. */
    private static void leftIsKnownLikewise() {
        for (int lag : new int[] {0, 1, 30}) {
            ServantRegistry r = Given.onDay(Given.registry(1, 1, 1), 100);
            r.placing(0, 0, 50);
            r.day(200);
            r.lag(0, lag);
            r.leave(0, 150, 0, 0);
            Check.due("left is known from, lag " + lag, r.placed(0, 6), 200 + lag);
            Check.due("a day too early, lag " + lag, r.in(0, 150, 199 + lag), 0);
            Check.due("on that day, lag " + lag, r.in(0, 150, 200 + lag), NONE);
            Check.due("the day before it's left, lag " + lag, r.in(0, 149, 200 + lag), 0);
            Check.due("later than it's left, lag " + lag, r.in(0, 999, 999), NONE);
        }
    }

    /** "that began by that DAY and weren't (KNOWN to be) LEFT by it". */
    private static void inFromItsBeginningToLeft() {
        ServantRegistry r = Given.onDay(Given.registry(1, 1, 1), 100);
        r.placing(0, 0, 40);
        Check.due("the day before it began", r.in(0, 39, 100), NONE);
        Check.due("the day it began", r.in(0, 40, 100), 0);
        Check.due("the last of all days", r.in(0, 999, 100), 0);
        r.leave(0, 60, 0, 0);
        Check.due("the day before it's left", r.in(0, 59, 100), 0);
        Check.due("the day it's left", r.in(0, 60, 100), NONE);
        Check.due("the day behind it", r.in(0, 61, 100), NONE);
        r.placing(0, 0, 70);
        r.leave(1, 70, 0, 0);
        Check.due("left on its first day", r.in(0, 70, 100), NONE);
        r.placing(0, 0, 80);
        r.leave(2, 81, 0, 0);
        Check.due("left on its second day, the first", r.in(0, 80, 100), 2);
        Check.due("left on its second day", r.in(0, 81, 100), NONE);
    }

    /** "the one that began last". */
    private static void inTheOneThatBeganLast() {
        ServantRegistry r = Given.onDay(Given.registry(1, 1, 3), 100);
        r.placing(0, 0, 40);
        r.placing(0, 1, 42);
        r.placing(0, 2, 41);
        Check.due("the first alone", r.in(0, 40, 100), 0);
        Check.due("told last, begun last by then", r.in(0, 41, 100), 2);
        Check.due("begun last, not told last", r.in(0, 42, 100), 1);
        r.leave(1, 45, 0, 0);
        Check.due("it's still on", r.in(0, 44, 100), 1);
        Check.due("it's left: the one that began last before", r.in(0, 45, 100), 2);
        r.leave(2, 50, 0, 0);
        Check.due("it's left too", r.in(0, 50, 100), 0);
    }

    /** "(of one DAY told last)". */
    private static void ofOneDayToldLast() {
        ServantRegistry r = Given.onDay(Given.registry(1, 1, 3), 100);
        for (int i = 0; i < 3; i++) {
            r.placing(0, i, 40);
            Check.due("of one day the one told last", r.in(0, 40, 100), i);
            Check.due("it holds its place", r.holder(i, 40, 100), 0);
        }
        Check.due("the others hold nothing", r.holder(0, 40, 100), NONE);
        r.undo(2);
        Check.due("told last of those that are known", r.in(0, 40, 100), 1);
    }

    private static ServantRegistry twoPlacings() {
        ServantRegistry r = Given.registry(2, 1, 2);
        r.placing(0, 0, 0);
        r.placing(0, 1, 0);
        r.placing(1, 0, 0);
        return r;
    }

    /** "NONE: none, none such" of in. */
    private static void inOfNoneSuch() {
        ServantRegistry r = twoPlacings();
        Bounds.due("in's servant", 0, 1, s -> r.in(s, 0, 0) != NONE);
        Bounds.due("in's day", 0, 999, day -> r.in(0, day, 0) == 1);
        Bounds.due("in's known", 0, 999, known -> r.in(0, 0, known) == 1);
        Bounds.none("in's servant of none", s -> new ServantRegistry().in(s, 0, 0) != NONE);
    }

    /** "The SERVANT that is IN a PLACE likewise (of several the least)." */
    private static void holderOfSeveralTheLeast() {
        ServantRegistry r = Given.onDay(Given.registry(24, 1, 30), 50);
        for (int s = 23; s >= 0; s--) {
            r.placing(s, 29, 50 - s);
            Check.due("the least of several", r.holder(29, 50, 50), s);
        }
        Check.due("on the day of the greatest alone", r.holder(29, 27, 50), 23);
        Check.due("on a day before", r.holder(29, 26, 50), NONE);
        Check.due("another place", r.holder(28, 50, 50), NONE);
    }

    private static void holderOfNoneSuch() {
        ServantRegistry r = twoPlacings();
        Bounds.due("holder's place", 0, 1, p -> r.holder(p, 0, 0) != NONE);
        Bounds.due("holder's day", 0, 999, day -> r.holder(0, day, 0) == 1);
        Bounds.due("holder's known", 0, 999, known -> r.holder(0, 0, known) == 1);
        Bounds.none("holder's place of none", p -> Given.registry(1, 1, 0).holder(p, 0, 0) != NONE);
    }

    /** Two placings of one servant, each from a day on till it's left. */
    private static int twiceOf(int from, int left, int otherFrom, int otherLeft) {
        ServantRegistry r = Given.onDay(Given.registry(1, 1, 2), 100);
        r.placing(0, 0, from);
        r.placing(0, 1, otherFrom);
        if (left >= 0) {
            r.leave(0, left, 0, 0);
        }
        if (otherLeft >= 0) {
            r.leave(1, otherLeft, 0, 0);
        }
        return r.twice(0, 100, 0);
    }

    /** "both on for a DAY they share (LEFT's DAY isn't one of it)". */
    private static void twiceForADayTheyShare() {
        Check.due("left on the day the other begins", twiceOf(10, 20, 20, NONE), NONE);
        Check.due("left a day later", twiceOf(10, 21, 20, NONE), 0);
        Check.due("the other is left on its first day", twiceOf(20, NONE, 10, 20), NONE);
        Check.due("the other is left a day later", twiceOf(20, NONE, 10, 21), 0);
        Check.due("both on one day alone", twiceOf(10, 11, 10, 11), 0);
        Check.due("the one on no day", twiceOf(10, 10, 10, NONE), NONE);
        Check.due("the other on no day", twiceOf(10, NONE, 10, 10), NONE);
        Check.due("the one on no day within the other", twiceOf(15, 15, 10, 20), NONE);
        Check.due("the other on no day within the one", twiceOf(10, 20, 15, 15), NONE);
        Check.due("the one within the other", twiceOf(15, 16, 10, 20), 0);
        Check.due("neither is left", twiceOf(0, NONE, 100, NONE), 0);
        Check.due("they share today alone", twiceOf(100, NONE, 100, NONE), 0);
    }

    /** "the first placing of the first pair (what 0), the other (1)". */
    private static void twiceTheFirstPair() {
        ServantRegistry r = Given.onDay(Given.registry(2, 1, 2), 100);
        r.placing(1, 0, 0);
        r.placing(0, 0, 0);
        r.leave(1, 10, 0, 0);
        r.placing(0, 0, 50);
        r.placing(1, 0, 0);
        r.placing(0, 0, 60);
        r.placing(0, 0, 5);
        r.placing(0, 0, 4);
        Check.due("the first of the first pair", r.twice(0, 100, 0), 1);
        Check.due("the other of it", r.twice(0, 100, 1), 5);
        Check.due("another servant's first", r.twice(1, 100, 0), 0);
        Check.due("another servant's other", r.twice(1, 100, 1), 3);
        r.undo(1);
        Check.due("without it: the first", r.twice(0, 100, 0), 2);
        Check.due("without it: the other", r.twice(0, 100, 1), 4);
    }

    private static void twiceAsKnown() {
        ServantRegistry r = Given.onDay(lagged(7), 100);
        r.placing(0, 0, 10);
        r.day(102);
        r.placing(0, 1, 20);
        Check.due("the other's letter isn't there", r.twice(0, 108, 0), NONE);
        Check.due("the other's letter is there", r.twice(0, 109, 1), 1);
        r.day(120);
        r.leave(0, 20, 0, 0);
        Check.due("that it's left isn't known", r.twice(0, 126, 0), 0);
        Check.due("that it's left is known", r.twice(0, 127, 0), NONE);
        r.undo(1);
        Check.due("undone: the day before", r.twice(0, 119, 0), 0);
        Check.due("undone: on that day", r.twice(0, 120, 0), NONE);
    }

    private static void twiceOfNoneSuch() {
        ServantRegistry r = twoPlacings();
        r.placing(1, 0, 0);
        Bounds.due("twice's servant", 0, 1, s -> r.twice(s, 0, 0) != NONE);
        Bounds.due("twice's known", 0, 999, known -> r.twice(0, known, 1) == 1);
        Bounds.due("twice's what", 0, 1, what -> r.twice(0, 0, what) != NONE);
        Bounds.none("twice's servant of none", s -> new ServantRegistry().twice(s, 0, 0) != NONE);
    }

    /** "-2,000,000,000: none such." */
    private static void placedOfNoneSuch() {
        ServantRegistry r = twoPlacings();
        Bounds.due("placed's placing", 0, 2, p -> r.placed(p, 0) != NONE_SUCH);
        Bounds.due("placed's what", 0, 11, what -> r.placed(0, what) != NONE_SUCH);
        Bounds.none("placed's placing of none", p -> new ServantRegistry().placed(p, 0) != NONE_SUCH);
        for (int what : new int[] {3, 4, 6, 7}) {
            Check.due("there is none: " + what, r.placed(0, what), NONE);
        }
        for (int beyond : Bounds.beyond(0, 2)) {
            Check.due("no placing " + beyond, r.placed(beyond, 3), NONE_SUCH);
        }
        for (int beyond : Bounds.beyond(0, 11)) {
            Check.due("no what " + beyond, r.placed(0, beyond), NONE_SUCH);
        }
    }
}
