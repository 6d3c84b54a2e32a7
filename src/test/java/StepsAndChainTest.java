/** Promises 28 to 32: steps to a better post, and empty places filled by chains. */
public final class StepsAndChainTest {
    private static final int NONE = ServantRegistry.NONE;
    private static final String LADDER = "step kitchen cook after 30;step cook butler after 100;"
            + "step kitchen house after 10;step house butler after 50;step house nurse after 5;"
            + "step nurse coach after 20;step butler coach after 7;";

    public static void main(String[] args) {
        stepsFromNothing();
        stepsByDays();
        stepsOfFewestDays();
        stepsAsKnown();
        chainRows();
        chainOfMost();
        chainOfFewestDays();
        chainOfLeastRow();
        chainOfFit();
        Check.end();
    }

    /** A house in town 0 and one five days off in town 1, with a place of each post; a servant. */
    private static ServantRegistry ready(String rules) {
        ServantRegistry r = new ServantRegistry();
        r.servant(-9000, 0, 0, 0);
        r.house(0);
        r.house(1);
        r.lag(1, 5);
        for (int p = 0; p < 12; p++) {
            r.place(p / 6, p % 6, 100, 0, 0, NONE);
        }
        Check.rules(r, rules);
        return r;
    }

    private static void due(ServantRegistry r, String when, int post, int steps, int days) {
        Check.due(when + ": steps to " + post, r.steps(0, post, 0), steps);
        Check.due(when + ": days to " + post, r.steps(0, post, 1), days);
    }

    private static void stepsFromNothing() {
        ServantRegistry r = ready(LADDER);
        for (int post = 0; post < 6; post++) {
            due(r, "never served", post, NONE, NONE);
        }
        Check.due("no servant", r.steps(1, 0, 0), NONE);
        Check.due("servant below", r.steps(-1, 0, 0), NONE);
        r.placing(0, 0, 0);
        Check.due("post beyond", r.steps(0, 6, 0), NONE);
        Check.due("post below", r.steps(0, -1, 0), NONE);
        Check.due("what beyond", r.steps(0, 0, 2), NONE);
        Check.due("what below", r.steps(0, 0, -1), NONE);
        due(r, "begun today", 0, 0, 0);
        r.leave(0, 0, 0, 0);
        due(r, "left today", 0, NONE, NONE);
        ServantRegistry open = ready("step kitchen cook after 0;step cook butler after 9;");
        due(open, "no days asked for", 3, 0, 0);
        due(open, "no days asked for, then some", 5, 1, 9);
        due(open, "the post itself isn't open", 0, NONE, NONE);
        ServantRegistry bare = ready("");
        bare.placing(0, 0, 0);
        due(bare, "bare", 0, 0, 0);
        due(bare, "bare", 1, NONE, NONE);
    }

    private static void stepsByDays() {
        ServantRegistry r = ready(LADDER);
        r.day(8);
        r.placing(0, 0, 0);
        due(r, "nine days", 1, 1, 1);
        due(r, "nine days", 3, 1, 21);
        due(r, "nine days", 2, 2, 1 + 5);
        r.day(9);
        due(r, "ten days, today too", 1, 0, 0);
        due(r, "ten days", 2, 1, 5);
        due(r, "ten days", 5, 1, 50);
        due(r, "ten days", 4, 2, 5 + 20);
        r.leave(0, 5, 0, 0);
        r.placing(0, 0, 7);
        due(r, "all together", 1, 1, 2);
        r.day(11);
        due(r, "all together, two days later", 1, 0, 0);
    }

    private static void stepsOfFewestDays() {
        ServantRegistry r = ready("step kitchen house after 40;step kitchen cook after 40;"
                + "step kitchen cook after 30;step house butler after 10;step cook butler after 25;"
                + "step kitchen nurse after 1;step nurse coach after 1;step coach butler after 1;");
        r.placing(0, 0, 0);
        due(r, "nurse may be taken", 2, 0, 0);
        due(r, "two ways of two steps", 5, 2, 2);
        ServantRegistry q = ready("step kitchen house after 40;step kitchen cook after 40;"
                + "step kitchen cook after 30;step house butler after 10;step cook butler after 25;"
                + "step kitchen nurse after 2;step nurse coach after 1;step coach butler after 1;");
        q.placing(0, 0, 0);
        due(q, "fewest steps ahead of fewest days", 5, 2, 49);
        due(q, "the lesser of like steps", 3, 1, 29);
        ServantRegistry back = ready("step kitchen house after 5;step house kitchen after 5;"
                + "step house house after 1;step butler cook after 1;");
        back.placing(0, 0, 0);
        due(back, "round and round", 1, 1, 4);
        due(back, "no way", 3, NONE, NONE);
    }

    private static void stepsAsKnown() {
        ServantRegistry r = ready(LADDER);
        r.day(20);
        r.placing(0, 6, 0);
        due(r, "not known", 1, NONE, NONE);
        r.day(25);
        due(r, "known", 1, 0, 0);
        due(r, "known", 3, 1, 4);
        r.leave(0, 6, 0, 0);
        r.day(29);
        due(r, "that it's left isn't known", 3, 0, 0);
        r.day(30);
        due(r, "that it's left is known", 1, 1, 4);
        r.placing(0, 1, 2);
        due(r, "twice: in the one that began last", 0, 0, 0);
        due(r, "twice: two days of the first", 3, 1, 28);
        r.undo(1);
        due(r, "undone", 3, 1, 24);
        Check.rules(r, "step kitchen coach after 6;");
        due(r, "by today's rules", 4, 0, 0);
        due(r, "by today's rules", 1, NONE, NONE);
    }

    private static ServantRegistry chainReady(int servants, int places) {
        ServantRegistry r = new ServantRegistry();
        r.house(0);
        for (int s = 0; s < servants; s++) {
            r.servant(-9000, 1 << s % 8, 0, 0);
        }
        for (int p = 0; p < places; p++) {
            r.place(0, 0, 100, 0, 0, NONE);
        }
        return r;
    }

    private static void chainRows() {
        ServantRegistry r = chainReady(8, 8);
        Check.due("no place", r.empty(8, 0), NONE);
        Check.due("place below", r.empty(-1, 0), NONE);
        Check.due("day below", r.empty(0, -1), NONE);
        Check.due("day beyond", r.empty(0, 2000), NONE);
        Check.due("no servant", r.free(8, 0), NONE);
        Check.due("servant below", r.free(-1, 0), NONE);
        Check.due("free day below", r.free(0, -1), NONE);
        Check.due("free day beyond", r.free(0, 2000), NONE);
        for (int i = 1; i <= 6; i++) {
            Check.due("empty " + i, r.empty(i, 0), i);
            Check.due("free " + i, r.free(7 - i, 1999), i);
            Check.due("it's there", r.empty(i, 5), NONE);
            Check.due("free: it's there", r.free(7 - i, 5), NONE);
        }
        Check.due("a seventh place", r.empty(7, 0), NONE);
        Check.due("a seventh servant", r.free(7, 0), NONE);
        Check.due("six given", r.chain(0), 6);
        Check.due("all days", r.chain(1), 6 * 1999);
        for (int k = 0; k < 6; k++) {
            Check.due("the least row", r.chain(10 + k), k + 1);
        }
        Check.due("chain(-1)", r.chain(-1), NONE);
        Check.due("chain(2)", r.chain(2), NONE);
        Check.due("chain(9)", r.chain(9), NONE);
        Check.due("chain(16)", r.chain(16), NONE);
        Check.due("clear", r.clear(), 12);
        Check.due("clear again", r.clear(), 0);
        Check.due("none given", r.chain(0), 0);
        Check.due("no place told", r.chain(10), NONE);
        Check.due("empty from day 1999", r.empty(7, 1999), 1);
        Check.due("nobody", r.chain(10), NONE);
        Check.due("no days of nobody", r.chain(1), 0);
        r.free(3, 1998);
        Check.due("free before it's empty", r.chain(1), 0);
        Check.due("free before it's empty", r.chain(10), 3);
    }

    private static void chainOfMost() {
        ServantRegistry r = chainReady(2, 0);
        r.place(0, 0, 100, 1, 0, NONE);
        r.place(0, 0, 100, 0, 0, NONE);
        r.empty(1, 0);
        r.empty(0, 0);
        r.free(0, 0);
        r.free(1, 1999);
        Check.due("two though it costs days", r.chain(0), 2);
        Check.due("its days", r.chain(1), 1999);
        Check.due("the first told", r.chain(10), 1);
        Check.due("the second told", r.chain(11), 0);
    }

    private static void chainOfFewestDays() {
        ServantRegistry r = chainReady(3, 3);
        r.empty(0, 10);
        r.empty(1, 20);
        r.empty(2, 30);
        r.free(0, 30);
        r.free(1, 20);
        r.free(2, 10);
        Check.due("no empty days", r.chain(1), 0);
        Check.due("row 0", r.chain(10), 2);
        Check.due("row 1", r.chain(11), 1);
        Check.due("row 2", r.chain(12), 0);
        r.clear();
        r.empty(0, 10);
        r.empty(1, 20);
        r.free(2, 25);
        Check.due("the place that is empty later", r.chain(1), 5);
        Check.due("not the first", r.chain(10), NONE);
        Check.due("but the second", r.chain(11), 2);
    }

    private static void chainOfLeastRow() {
        ServantRegistry r = chainReady(4, 3);
        r.empty(2, 0);
        r.empty(0, 0);
        r.free(3, 5);
        r.free(1, 5);
        Check.due("the least servant to the place told first", r.chain(10), 1);
        Check.due("the other", r.chain(11), 3);
        r.empty(1, 0);
        Check.due("none is the greatest: 0", r.chain(10), 1);
        Check.due("none is the greatest: 1", r.chain(11), 3);
        Check.due("none is the greatest: 2", r.chain(12), NONE);
        r.free(2, 4);
        Check.due("all days", r.chain(1), 14);
        Check.due("row 1 with another one", r.chain(11), 2);
    }

    private static void chainOfFit() {
        ServantRegistry r = new ServantRegistry();
        r.house(0);
        r.servant(0, 0, 0, 0);
        r.place(0, 0, 100, 0, 1, NONE);
        r.empty(0, 500);
        r.free(0, 600);
        r.day(364);
        Check.due("unfit today", r.chain(0), 0);
        r.day(365);
        Check.due("fit today", r.chain(0), 1);
        Check.due("its days", r.chain(1), 100);
        r.placing(0, 0, 365);
        Check.due("a placing matters not", r.chain(0), 1);
        Check.rules(r, "age kitchen 2;");
        Check.due("by today's rules", r.chain(0), 0);
    }
}
