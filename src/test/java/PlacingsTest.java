/** Promises 10 to 14: where servants are in, as it's known, and what placings cost. */
public final class PlacingsTest {
    private static final int NONE = ServantRegistry.NONE;
    private static final int NONE_SUCH = -2_000_000_000;

    public static void main(String[] args) {
        whereIn();
        knownLate();
        holders();
        twice();
        placed();
        fees();
        feesByDays();
        owed();
        wages();
        Check.end();
    }

    /** Two houses in towns 0 and 1, a place in each and another one in the first; two servants. */
    private static ServantRegistry ready() {
        ServantRegistry r = new ServantRegistry();
        r.servant(-9000, 7, 0, 0);
        r.servant(-6000, 1, 1, 0);
        r.house(0);
        r.house(1);
        r.lag(1, 5);
        r.place(0, 0, 100, 0, 0, NONE);
        r.place(1, 1, 200, 0, 0, NONE);
        r.place(0, 3, 300, 0, 0, NONE);
        return r;
    }

    private static void whereIn() {
        ServantRegistry r = ready();
        r.day(50);
        r.placing(0, 0, 10);
        r.placing(0, 2, 20);
        r.placing(0, 0, 20);
        r.placing(0, 2, 15);
        Check.due("ahead of all", r.in(0, 9, 50), NONE);
        Check.due("the first", r.in(0, 10, 50), 0);
        Check.due("the one that began last", r.in(0, 15, 50), 3);
        Check.due("of one day the one told last", r.in(0, 20, 50), 2);
        Check.due("on a later day", r.in(0, 999, 999), 2);
        r.leave(2, 30, 0, 0);
        Check.due("the day before it's left", r.in(0, 29, 50), 2);
        Check.due("on the day it's left", r.in(0, 30, 50), 1);
        Check.due("not told by then", r.in(0, 30, 49), NONE);
        Check.due("another servant", r.in(1, 20, 50), NONE);
        Check.due("no servant", r.in(2, 20, 50), NONE);
        Check.due("servant below", r.in(-1, 20, 50), NONE);
        Check.due("day below", r.in(0, -1, 50), NONE);
        Check.due("day beyond", r.in(0, 1000, 50), NONE);
        Check.due("known below", r.in(0, 20, -1), NONE);
        Check.due("known beyond", r.in(0, 20, 1000), NONE);
        r.placing(1, 0, 40);
        r.leave(4, 40, 0, 0);
        Check.due("left as it began", r.in(1, 40, 50), NONE);
    }

    private static void knownLate() {
        ServantRegistry r = ready();
        r.day(10);
        r.placing(0, 1, 3);
        Check.due("the letter isn't there", r.in(0, 3, 14), NONE);
        Check.due("the letter is there", r.in(0, 3, 15), 0);
        r.day(20);
        r.leave(0, 12, 0, 0);
        Check.due("left from", r.placed(0, 6), 25);
        Check.due("that it's left isn't known", r.in(0, 12, 24), 0);
        Check.due("that it's left is known", r.in(0, 12, 25), NONE);
        Check.due("on a day before it", r.in(0, 11, 25), 0);
        r.day(22);
        r.undo(0);
        Check.due("undone at once", r.in(0, 3, 22), NONE);
        Check.due("known before", r.in(0, 3, 21), 0);
        r.placing(0, 1, 21);
        r.undo(1);
        Check.due("undone before it's known", r.in(0, 21, 27), NONE);
    }

    private static void holders() {
        ServantRegistry r = ready();
        r.day(50);
        Check.due("empty", r.holder(0, 20, 50), NONE);
        r.placing(1, 0, 10);
        Check.due("one", r.holder(0, 20, 50), 1);
        r.placing(0, 0, 15);
        Check.due("of several the least", r.holder(0, 20, 50), 0);
        Check.due("on a day before", r.holder(0, 14, 50), 1);
        r.placing(0, 2, 18);
        Check.due("it went elsewhere later", r.holder(0, 20, 50), 1);
        Check.due("where it went", r.holder(2, 20, 50), 0);
        Check.due("not known", r.holder(0, 20, 49), NONE);
        Check.due("no place", r.holder(3, 20, 50), NONE);
        Check.due("place below", r.holder(-1, 20, 50), NONE);
        Check.due("day below", r.holder(0, -1, 50), NONE);
        Check.due("day beyond", r.holder(0, 1000, 50), NONE);
        Check.due("known below", r.holder(0, 20, -1), NONE);
        Check.due("known beyond", r.holder(0, 20, 1000), NONE);
    }

    private static void twice() {
        ServantRegistry r = ready();
        r.day(50);
        r.placing(0, 0, 30);
        r.placing(1, 0, 5);
        r.placing(0, 2, 10);
        Check.due("both on, the first", r.twice(0, 50, 0), 0);
        Check.due("both on, the other", r.twice(0, 50, 1), 2);
        r.leave(2, 31, 0, 0);
        Check.due("one day shared", r.twice(0, 50, 0), 0);
        ServantRegistry q = ready();
        q.day(50);
        q.placing(0, 0, 10);
        q.leave(0, 30, 0, 0);
        q.placing(0, 2, 30);
        Check.due("the day it's left isn't shared", q.twice(0, 50, 0), NONE);
        q.placing(0, 0, 40);
        q.leave(2, 40, 0, 0);
        Check.due("on for no day", q.twice(0, 50, 0), NONE);
        q.placing(0, 1, 20);
        Check.due("not known yet", q.twice(0, 54, 0), NONE);
        Check.due("the first pair", q.twice(0, 55, 0), 0);
        Check.due("the first pair's other", q.twice(0, 55, 1), 3);
        q.undo(0);
        Check.due("without the undone one", q.twice(0, 55, 0), 1);
        Check.due("without the undone one, other", q.twice(0, 55, 1), 3);
        q.leave(3, 25, 0, 0);
        q.day(60);
        Check.due("left, known later", q.twice(0, 55, 0), NONE);
        Check.due("another servant", q.twice(1, 55, 0), NONE);
        Check.due("no servant", q.twice(2, 55, 0), NONE);
        Check.due("servant below", q.twice(-1, 55, 0), NONE);
        Check.due("what below", r.twice(0, 50, -1), NONE);
        Check.due("what beyond", r.twice(0, 50, 2), NONE);
        Check.due("known below", r.twice(0, -1, 0), NONE);
        Check.due("known beyond", r.twice(0, 1000, 0), NONE);
        ServantRegistry late = ready();
        late.day(50);
        late.placing(0, 1, 10);
        late.day(60);
        late.leave(0, 20, 0, 0);
        late.placing(0, 0, 30);
        Check.due("that it's left isn't known yet", late.twice(0, 64, 0), 0);
        Check.due("that it's left is known", late.twice(0, 65, 0), NONE);
    }

    private static void placed() {
        ServantRegistry r = ready();
        r.day(40);
        r.placing(1, 1, 33);
        int[] at = {1, 1, 33, NONE, NONE, 45, NONE, NONE, 0, 0, 0, 0};
        for (int what = 0; what < at.length; what++) {
            Check.due("begun: placed(0, " + what + ")", r.placed(0, what), at[what]);
        }
        r.day(50);
        r.leave(0, 47, 3, 2);
        r.day(60);
        r.undo(0);
        int[] then = {1, 1, 33, 47, 2, 45, 55, 60, 0, 0, 0, -180};
        for (int what = 0; what < then.length; what++) {
            Check.due("left: placed(0, " + what + ")", r.placed(0, what), then[what]);
        }
        Check.due("no placing", r.placed(1, 0), NONE_SUCH);
        Check.due("placing below", r.placed(-1, 0), NONE_SUCH);
        Check.due("what below", r.placed(0, -1), NONE_SUCH);
        Check.due("what beyond", r.placed(0, 12), NONE_SUCH);
    }

    private static void fees() {
        ServantRegistry r = ready();
        Check.rules(r, "fee servant 1 7;fee house 9 0 if wage>150;fee house 3 33;fee house 99 0;"
                + "back 49 within 10;back 50 within 9;");
        r.day(30);
        r.placing(0, 0, 10);
        r.placing(0, 1, 10);
        Check.due("the first that holds, cut", r.placed(0, 8), 3 + 33);
        Check.due("servant's", r.placed(0, 9), 1 + 7);
        Check.due("the first that holds", r.placed(1, 8), 9);
        Check.due("servant's of 200", r.placed(1, 9), 1 + 14);
        Check.due("nothing back before it's left", r.placed(0, 10), 0);
        r.leave(0, 19, 99, 3);
        Check.due("back within 9 days, cut", r.placed(0, 10), 18);
        r.leave(1, 20, 99, 3);
        Check.due("no more back", r.placed(1, 10), 0);
        r.placing(0, 1, 10);
        r.leave(2, 10, 0, 0);
        r.undo(2);
        Check.due("back though undone and not known, cut", r.placed(2, 10), 4);
    }

    private static void feesByDays() {
        ServantRegistry r = ready();
        r.placing(0, 0, 0);
        Check.due("bare", r.placed(0, 8), 0);
        Check.rules(r, "fee house 5 0;back 100 within 99;");
        Check.due("taken later on its first day", r.placed(0, 8), 5);
        r.day(10);
        Check.rules(r, "fee house 7 0;");
        Check.due("by the rules of its first day", r.placed(0, 8), 5);
        r.placing(0, 0, 9);
        Check.due("told today, begun yesterday", r.placed(1, 8), 5);
        r.placing(0, 0, 10);
        Check.due("begun today", r.placed(2, 8), 7);
        r.leave(0, 10, 0, 0);
        Check.due("back by the rules of its first day", r.placed(0, 10), 5);
        r.leave(2, 10, 0, 0);
        Check.due("bare of back", r.placed(2, 10), 0);
        Check.rules(r, "fee house 1 0 if day=10;fee house 2 0 if age<17;fee servant 3 0 if skills=3;"
                + "fee servant 4 0 if town=1;fee servant 5 0 if post=3;");
        Check.due("by its day", r.placed(2, 8), 1);
        Check.due("by bits of the servant's skills", r.placed(2, 9), 3);
        r.day(11);
        r.placing(1, 1, 11);
        r.placing(1, 2, 11);
        r.placing(1, 0, 11);
        Check.due("by its age", r.placed(3, 8), 2);
        Check.due("by the house's town", r.placed(3, 9), 4);
        Check.due("by its post", r.placed(4, 9), 5);
        Check.due("none holds", r.placed(5, 9), 0);
    }

    private static void owed() {
        ServantRegistry r = ready();
        Check.rules(r, "notice 14;");
        r.day(20);
        Check.rules(r, "notice 20;");
        r.day(30);
        for (int cause = 0; cause <= 4; cause++) {
            r.placing(0, 1, 0);
            r.leave(cause, 19, 9, cause);
            Check.due("because of " + cause, r.placed(cause, 11), cause == 0 || cause == 4 ? 0 : -33);
        }
        r.placing(0, 1, 0);
        r.leave(5, 20, 9, 1);
        Check.due("by the rules of the day it's left", r.placed(5, 11), -73);
        r.placing(0, 1, 0);
        r.leave(6, 20, 20, 1);
        Check.due("enough notice", r.placed(6, 11), 0);
        r.placing(0, 1, 0);
        r.leave(7, 20, 99, 1);
        Check.due("more than enough", r.placed(7, 11), 0);
        ServantRegistry bare = ready();
        bare.placing(0, 0, 0);
        bare.leave(0, 0, 0, 3);
        Check.due("bare: 30 days", bare.placed(0, 11), -100);
    }

    private static void wages() {
        ServantRegistry r = ready();
        r.day(30);
        r.placing(0, 0, 10);
        Check.due("a day", r.wages(0, 10, 10), 3);
        Check.due("days before don't count", r.wages(0, 0, 10), 3);
        Check.due("none", r.wages(0, 0, 9), 0);
        Check.due("ten days", r.wages(0, 10, 19), 33);
        Check.due("days to come", r.wages(0, 0, 999), 3300);
        r.leave(0, 20, 0, 0);
        Check.due("the day it's left isn't one", r.wages(0, 0, 999), 33);
        Check.due("behind it", r.wages(0, 20, 30), 0);
        r.undo(0);
        Check.due("undone", r.wages(0, 10, 11), 6);
        Check.due("no placing", r.wages(1, 0, 1), NONE);
        Check.due("placing below", r.wages(-1, 0, 1), NONE);
        Check.due("from below", r.wages(0, -1, 1), NONE);
        Check.due("to beyond", r.wages(0, 1, 1000), NONE);
        Check.due("to ahead of from", r.wages(0, 11, 10), NONE);
    }
}
