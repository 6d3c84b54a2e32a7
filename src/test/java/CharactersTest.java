/** Promises 20 to 23: characters as they were written, what can't be, and writers' habits. */
public final class CharactersTest {
    private static final int NONE = ServantRegistry.NONE;

    public static void main(String[] args) {
        writing();
        falseOnes();
        falseAsKnown();
        habitCounts();
        habitStays();
        habitAtItsEdges();
        habitOfNone();
        Check.end();
    }

    /** Houses 0 (town 0), 1 (town 1, five days off) and 2 (town 0), a place in each; 3 servants. */
    private static ServantRegistry ready() {
        ServantRegistry r = new ServantRegistry();
        r.lag(1, 5);
        for (int h = 0; h < 3; h++) {
            r.house(h == 1 ? 1 : 0);
            r.place(h, 0, 100, 0, 0, NONE);
            r.servant(-9000, 0, 0, 0);
        }
        return r;
    }

    private static void writing() {
        ServantRegistry r = ready();
        r.day(20);
        Check.due("no house", r.write(3, 0, 5, 0, 1), NONE);
        Check.due("house below", r.write(-1, 0, 5, 0, 1), NONE);
        Check.due("no servant", r.write(0, 3, 5, 0, 1), NONE);
        Check.due("servant below", r.write(0, -1, 5, 0, 1), NONE);
        Check.due("mark below", r.write(0, 0, -1, 0, 1), NONE);
        Check.due("mark beyond", r.write(0, 0, 10, 0, 1), NONE);
        Check.due("from below", r.write(0, 0, 5, -1, 1), NONE);
        Check.due("to tomorrow", r.write(0, 0, 5, 0, 21), NONE);
        Check.due("to ahead of from", r.write(0, 0, 5, 3, 2), NONE);
        Check.due("none yet", r.count(8), 0);
        Check.due("up to today", r.write(2, 1, 9, 0, 20), 0);
        Check.due("one day", r.write(0, 0, 0, 20, 20), 1);
        r.day(25);
        int[] want = {2, 1, 9, 20};
        for (int what = 0; what < want.length; what++) {
            Check.due("written(0, " + what + ")", r.written(0, what), want[what]);
        }
        Check.due("what below", r.written(0, -1), NONE);
        Check.due("what beyond", r.written(0, 4), NONE);
        Check.due("no character", r.written(2, 0), NONE);
        Check.due("character below", r.written(-1, 0), NONE);
        for (int i = 2; i < 60; i++) {
            Check.due("character " + i, r.write(0, 0, 5, 0, 1), i);
        }
        Check.due("the 61st", r.write(0, 0, 5, 0, 1), NONE);
    }

    private static void falseOnes() {
        ServantRegistry r = ready();
        r.day(50);
        r.placing(0, 0, 10);
        r.leave(0, 20, 0, 0);
        r.placing(0, 2, 30);
        r.write(0, 0, 5, 10, 19);
        r.write(0, 0, 5, 0, 19);
        r.write(0, 0, 5, 0, 20);
        r.write(0, 0, 5, 10, 29);
        r.write(0, 0, 5, 10, 30);
        r.write(0, 0, 5, 0, 40);
        r.write(2, 0, 5, 15, 40);
        r.write(1, 0, 5, 25, 25);
        r.write(1, 1, 5, 0, 50);
        int[] want = {NONE, NONE, 1000, NONE, 30, 30, 15, 1000, 1000};
        for (int i = 0; i < want.length; i++) {
            Check.due("isFalse(" + i + ")", r.isFalse(i, 50), want[i]);
        }
        r.placing(0, 2, 12);
        Check.due("twice: in the one that began last", r.isFalse(0, 50), 12);
        Check.due("no character", r.isFalse(9, 50), NONE);
        Check.due("character below", r.isFalse(-1, 50), NONE);
        Check.due("known below", r.isFalse(2, -1), NONE);
        Check.due("known beyond", r.isFalse(2, 1000), NONE);
    }

    private static void falseAsKnown() {
        ServantRegistry r = ready();
        r.day(50);
        r.placing(0, 0, 0);
        r.placing(0, 1, 40);
        r.write(0, 0, 5, 0, 45);
        Check.due("nothing known", r.isFalse(0, 49), 1000);
        Check.due("the letter isn't there", r.isFalse(0, 54), NONE);
        Check.due("the letter is there", r.isFalse(0, 55), 40);
        r.day(60);
        r.undo(1);
        Check.due("put right", r.isFalse(0, 60), NONE);
        Check.due("as it was known before", r.isFalse(0, 59), 40);
    }

    private static void habitCounts() {
        ServantRegistry r = ready();
        Check.rules(r, "habit 2;");
        r.day(10);
        r.placing(0, 0, 0);
        r.placing(1, 0, 0);
        r.placing(2, 0, 0);
        r.write(0, 0, 7, 0, 10);
        r.write(0, 1, 4, 0, 10);
        r.write(0, 2, 9, 0, 10);
        r.write(2, 2, 9, 0, 10);
        Check.due("none behind", r.habit(0, 0), 0);
        Check.due("told nobody", r.habit(0, 1), NONE);
        r.day(20);
        r.leave(0, 20, 0, 0);
        r.placing(0, 2, 20);
        Check.due("too young", r.habit(0, 0), 0);
        r.day(25);
        r.leave(3, 25, 0, 0);
        Check.due("left", r.habit(0, 0), 1);
        Check.due("too few for marks", r.habit(0, 1), NONE);
        Check.due("too few for stayed", r.habit(0, 2), NONE);
        r.placing(1, 2, 25);
        r.day(85);
        Check.due("60 days old", r.habit(0, 0), 1);
        r.day(86);
        Check.due("61 days old", r.habit(0, 0), 2);
        Check.due("marks", r.habit(0, 1), 550);
        Check.due("stayed", r.habit(0, 2), (5 + 61) * 100 / 2);
        r.placing(2, 2, 86);
        r.leave(5, 86, 0, 0);
        Check.due("three of them", r.habit(0, 0), 3);
        Check.due("marks, cut", r.habit(0, 1), 666);
        Check.due("stayed, cut", r.habit(0, 2), 2200);
        Check.rules(r, "habit 4;");
        Check.due("by today's rules", r.habit(0, 1), NONE);
        Check.due("a false one doesn't count", r.habit(2, 0), 0);
        Check.due("none written", r.habit(1, 0), 0);
        Check.due("no house", r.habit(3, 0), NONE);
        Check.due("house below", r.habit(-1, 0), NONE);
        Check.due("what below", r.habit(0, -1), NONE);
        Check.due("what beyond", r.habit(0, 3), NONE);
    }

    private static ServantRegistry oneCharacter() {
        ServantRegistry r = ready();
        Check.rules(r, "habit 1;");
        r.day(10);
        r.placing(0, 0, 0);
        r.write(0, 0, 6, 0, 9);
        return r;
    }

    private static void habitStays() {
        ServantRegistry r = oneCharacter();
        r.day(300);
        r.placing(0, 2, 20);
        Check.due("to today", r.habit(0, 2), 28000);
        r.placing(0, 2, 15);
        Check.due("the one that began first", r.habit(0, 2), 28500);
        r.placing(0, 2, 15);
        r.leave(3, 25, 0, 0);
        Check.due("of one day the lesser number", r.habit(0, 2), 28500);
        r.leave(2, 18, 0, 0);
        Check.due("to the day it's left", r.habit(0, 2), 300);
        r.undo(2);
        Check.due("without the undone one", r.habit(0, 2), 1000);
    }

    private static void habitAtItsEdges() {
        ServantRegistry r = oneCharacter();
        r.day(300);
        r.placing(0, 0, 11);
        Check.due("not elsewhere", r.habit(0, 0), 0);
        r.placing(0, 2, 9);
        Check.due("the day before, which makes it false", r.habit(0, 0), 0);
        r.undo(2);
        r.placing(0, 2, 10);
        Check.due("on its day", r.habit(0, 0), 1);
        r.undo(3);
        r.placing(0, 1, 40);
        Check.due("not known yet", r.habit(0, 0), 0);
        r.day(305);
        Check.due("known", r.habit(0, 2), 26500);
        r.leave(4, 45, 0, 0);
        Check.due("that it's left isn't known yet", r.habit(0, 2), 26500);
        r.day(310);
        Check.due("that it's left is known", r.habit(0, 2), 500);
    }

    private static void habitOfNone() {
        ServantRegistry r = ready();
        Check.rules(r, "habit 0;");
        Check.due("none there", r.habit(0, 0), 0);
        Check.due("no mean of none", r.habit(0, 1), NONE);
        Check.due("no mean of none", r.habit(0, 2), NONE);
    }
}
