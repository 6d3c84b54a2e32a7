/** Promises 1 to 9 and 37: what is told to the registry, within its bounds and beyond them. */
public final class PeopleAndPlacesTest {
    private static final int NONE = ServantRegistry.NONE;

    public static void main(String[] args) {
        newObject();
        days();
        servants();
        houses();
        lags();
        places();
        placings();
        leaving();
        undoing();
        counts();
        Check.end();
    }

    private static void newObject() {
        ServantRegistry r = new ServantRegistry();
        for (int what = 0; what <= 12; what++) {
            Check.due("new: count(" + what + ")", r.count(what), 0);
        }
        Check.due("new: fault", r.fault(), NONE);
        Check.due("new: law(0, 7)", r.law(0, 7), NONE);
        Check.due("new: judge", r.judge(), NONE);
        Check.due("new: clear", r.clear(), 0);
        Check.due("new: chain(0)", r.chain(0), 0);
        Check.due("new: chain(1)", r.chain(1), 0);
        Check.due("new: chain(10)", r.chain(10), NONE);
        Check.due("new: dealt(0)", r.dealt(0), NONE);
        Check.due("new: in", r.in(0, 0, 0), NONE);
        Check.due("new: leftMore", r.leftMore(0), NONE);
        Check.due("new: habit", r.habit(0, 0), NONE);
    }

    private static void days() {
        ServantRegistry r = new ServantRegistry();
        Check.due("day(0)", r.day(0), false);
        Check.due("day(-1)", r.day(-1), false);
        Check.due("day(5)", r.day(5), true);
        Check.due("day(5) again", r.day(5), false);
        Check.due("day(4)", r.day(4), false);
        Check.due("day(1000)", r.day(1000), false);
        Check.due("today", r.count(0), 5);
        Check.due("day(999)", r.day(999), true);
        Check.due("today at last", r.count(0), 999);
        Check.due("day(MAX)", r.day(Integer.MAX_VALUE), false);
    }

    private static void servants() {
        ServantRegistry r = new ServantRegistry();
        r.day(10);
        Check.due("born too early", r.servant(-20001, 0, 0, 0), NONE);
        Check.due("born tomorrow", r.servant(11, 0, 0, 0), NONE);
        Check.due("skills below", r.servant(0, -1, 0, 0), NONE);
        Check.due("skills beyond", r.servant(0, 256, 0, 0), NONE);
        Check.due("church below", r.servant(0, 0, -1, 0), NONE);
        Check.due("church beyond", r.servant(0, 0, 4, 0), NONE);
        Check.due("town below", r.servant(0, 0, 0, -1), NONE);
        Check.due("town beyond", r.servant(0, 0, 0, 5), NONE);
        Check.due("none yet", r.count(1), 0);
        Check.due("the earliest", r.servant(-20000, 255, 3, 4), 0);
        Check.due("born today", r.servant(10, 0, 0, 0), 1);
        for (int i = 2; i < 24; i++) {
            Check.due("servant " + i, r.servant(0, 0, 0, 0), i);
        }
        Check.due("the 25th", r.servant(0, 0, 0, 0), NONE);
        Check.due("24 are there", r.count(1), 24);
    }

    private static void houses() {
        ServantRegistry r = new ServantRegistry();
        Check.due("house(-1)", r.house(-1), NONE);
        Check.due("house(5)", r.house(5), NONE);
        for (int i = 0; i < 12; i++) {
            Check.due("house " + i, r.house(i % 5), i);
        }
        Check.due("the 13th", r.house(0), NONE);
        Check.due("12 are there", r.count(2), 12);
    }

    private static void lags() {
        ServantRegistry r = new ServantRegistry();
        Check.due("lag(-1, 0)", r.lag(-1, 0), false);
        Check.due("lag(5, 0)", r.lag(5, 0), false);
        Check.due("lag(0, -1)", r.lag(0, -1), false);
        Check.due("lag(0, 31)", r.lag(0, 31), false);
        Check.due("lag(4, 30)", r.lag(4, 30), true);
        Check.due("lag(0, 0)", r.lag(0, 0), true);
        r.servant(0, 0, 0, 0);
        r.house(4);
        r.place(0, 0, 30, 0, 0, NONE);
        r.placing(0, 0, 0);
        r.lag(4, 2);
        r.placing(0, 0, 0);
        Check.due("told by the lag as it was", r.placed(0, 5), 30);
        Check.due("told by the lag from then on", r.placed(1, 5), 2);
        r.leave(0, 0, 0, 0);
        Check.due("left by the lag as it is", r.placed(0, 6), 2);
    }

    private static void places() {
        ServantRegistry r = new ServantRegistry();
        Check.due("no house", r.place(0, 0, 1, 0, 0, NONE), NONE);
        r.house(0);
        Check.due("house below", r.place(-1, 0, 1, 0, 0, NONE), NONE);
        Check.due("post below", r.place(0, -1, 1, 0, 0, NONE), NONE);
        Check.due("post beyond", r.place(0, 6, 1, 0, 0, NONE), NONE);
        Check.due("wage below", r.place(0, 0, 0, 0, 0, NONE), NONE);
        Check.due("wage beyond", r.place(0, 0, 1000, 0, 0, NONE), NONE);
        Check.due("skills below", r.place(0, 0, 1, -1, 0, NONE), NONE);
        Check.due("skills beyond", r.place(0, 0, 1, 256, 0, NONE), NONE);
        Check.due("age below", r.place(0, 0, 1, 0, -1, NONE), NONE);
        Check.due("age beyond", r.place(0, 0, 1, 0, 100, NONE), NONE);
        Check.due("church below", r.place(0, 0, 1, 0, 0, -2), NONE);
        Check.due("church beyond", r.place(0, 0, 1, 0, 0, 4), NONE);
        Check.due("none yet", r.count(3), 0);
        Check.due("the greatest", r.place(0, 5, 999, 255, 99, 3), 0);
        for (int i = 1; i < 30; i++) {
            Check.due("place " + i, r.place(0, 0, 1, 0, 0, NONE), i);
        }
        Check.due("the 31st", r.place(0, 0, 1, 0, 0, NONE), NONE);
        Check.due("30 are there", r.count(3), 30);
    }

    private static ServantRegistry withOnePlace() {
        ServantRegistry r = new ServantRegistry();
        r.servant(-9000, 0, 0, 0);
        r.house(0);
        r.place(0, 0, 300, 0, 0, NONE);
        r.day(20);
        return r;
    }

    private static void placings() {
        ServantRegistry r = withOnePlace();
        Check.due("no servant", r.placing(1, 0, 0), NONE);
        Check.due("servant below", r.placing(-1, 0, 0), NONE);
        Check.due("no place", r.placing(0, 1, 0), NONE);
        Check.due("place below", r.placing(0, -1, 0), NONE);
        Check.due("from below", r.placing(0, 0, -1), NONE);
        Check.due("from tomorrow", r.placing(0, 0, 21), NONE);
        for (int i = 0; i < 60; i++) {
            Check.due("placing " + i, r.placing(0, 0, i % 21), i);
        }
        Check.due("the 61st", r.placing(0, 0, 0), NONE);
        Check.due("60 are there", r.count(4), 60);
    }

    private static void leaving() {
        ServantRegistry r = withOnePlace();
        r.placing(0, 0, 10);
        Check.due("no placing", r.leave(1, 15, 0, 0), false);
        Check.due("placing below", r.leave(-1, 15, 0, 0), false);
        Check.due("ahead of its beginning", r.leave(0, 9, 0, 0), false);
        Check.due("tomorrow", r.leave(0, 21, 0, 0), false);
        Check.due("notice below", r.leave(0, 15, -1, 0), false);
        Check.due("notice beyond", r.leave(0, 15, 100, 0), false);
        Check.due("cause below", r.leave(0, 15, 0, -1), false);
        Check.due("cause beyond", r.leave(0, 15, 0, 5), false);
        Check.due("none left", r.count(5), 0);
        Check.due("on its first day", r.leave(0, 10, 99, 4), true);
        Check.due("left again", r.leave(0, 11, 99, 4), false);
        Check.due("left on", r.placed(0, 3), 10);
        Check.due("one left", r.count(5), 1);
        r.placing(0, 0, 10);
        Check.due("on today", r.leave(1, 20, 0, 0), true);
        r.placing(0, 0, 10);
        r.undo(2);
        Check.due("an undone one", r.leave(2, 20, 0, 0), true);
        Check.due("three left", r.count(5), 3);
    }

    private static void undoing() {
        ServantRegistry r = withOnePlace();
        Check.due("no placing", r.undo(0), false);
        Check.due("placing below", r.undo(-1), false);
        r.placing(0, 0, 10);
        Check.due("not undone", r.placed(0, 7), NONE);
        Check.due("undo", r.undo(0), true);
        r.day(30);
        Check.due("undo again", r.undo(0), false);
        Check.due("undone on", r.placed(0, 7), 20);
        Check.due("one undone", r.count(6), 1);
        Check.due("known till it's undone", r.in(0, 10, 19), NONE);
        r.placing(0, 0, 10);
        r.day(40);
        r.undo(1);
        Check.due("known the day before", r.in(0, 10, 39), 1);
        Check.due("not known from that day on", r.in(0, 10, 40), NONE);
        Check.due("not known later", r.in(0, 10, 999), NONE);
    }

    private static void counts() {
        ServantRegistry r = withOnePlace();
        Check.rules(r, "box 5;");
        r.feed(0, 0, 0, 0, 0);
        r.placing(0, 0, 3);
        r.placing(0, 0, 4);
        r.leave(0, 5, 0, 0);
        r.undo(0);
        r.undo(1);
        r.write(0, 0, 1, 0, 0);
        r.ask(0, 0, true);
        r.ask(0, 0, false);
        r.ask(0, 0, false);
        r.box(0, 3);
        r.box(1, 9);
        int[] want = {20, 1, 1, 1, 2, 1, 2, 1, 1, 3, 2, 8, 20};
        for (int what = 0; what < want.length; what++) {
            Check.due("count(" + what + ")", r.count(what), want[what]);
        }
        Check.due("count(-1)", r.count(-1), NONE);
        Check.due("count(13)", r.count(13), NONE);
    }
}
