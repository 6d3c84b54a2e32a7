/** Promises 33 to 36: like asks answered unlike, lost boxes, houses that are left more. */
public final class AsksAndHousesTest {
    private static final int NONE = ServantRegistry.NONE;

    public static void main(String[] args) {
        asking();
        likes();
        likesByAge();
        boxes();
        boxesByDays();
        leftMore();
        leftMoreAtItsEdges();
        leftMoreAsKnown();
        Check.end();
    }

    private static void asking() {
        ServantRegistry r = new ServantRegistry();
        r.house(0);
        Check.due("no servant", r.ask(0, 0, true), NONE);
        r.servant(0, 0, 0, 0);
        Check.due("no place", r.ask(0, 0, true), NONE);
        r.place(0, 0, 1, 0, 0, NONE);
        Check.due("servant below", r.ask(-1, 0, true), NONE);
        Check.due("place below", r.ask(0, -1, true), NONE);
        for (int i = 0; i < 60; i++) {
            Check.due("ask " + i, r.ask(0, 0, i % 2 == 0), i);
        }
        Check.due("the 61st", r.ask(0, 0, true), NONE);
        Check.due("60 are there", r.count(9), 60);
        for (int k = 0; k < 30; k++) {
            Check.due("the k-th", r.like(4, k), 2 * k + 1);
        }
        Check.due("no 31st", r.like(4, 30), NONE);
        Check.due("k below", r.like(4, -2), NONE);
        Check.due("k far beyond", r.like(4, Integer.MAX_VALUE), NONE);
        Check.due("no other church", r.like(4, NONE), NONE);
        Check.due("no ask", r.like(60, 0), NONE);
        Check.due("ask below", r.like(-1, 0), NONE);
    }

    private static void likes() {
        ServantRegistry r = new ServantRegistry();
        r.house(0);
        r.house(0);
        r.servant(-7300, 5, 1, 0);
        r.servant(-7300, 96, 1, 4);
        r.servant(-7300, 3, 2, 0);
        r.servant(-7300, 1, 3, 0);
        r.place(0, 2, 10, 0, 0, NONE);
        r.place(0, 2, 900, 1, 9, 2);
        r.place(0, 3, 10, 0, 0, NONE);
        r.place(1, 2, 10, 0, 0, NONE);
        r.ask(0, 0, true);
        r.ask(1, 0, true);
        r.ask(3, 0, false);
        r.ask(1, 2, false);
        r.ask(2, 3, false);
        Check.due("answered alike, other bits, post, house", r.like(0, 0), NONE);
        r.ask(1, 1, false);
        Check.due("another place of that post and house", r.like(0, 0), 5);
        Check.due("of the same church", r.like(0, NONE), NONE);
        r.ask(2, 0, false);
        r.ask(0, 0, false);
        Check.due("the first", r.like(0, 0), 5);
        Check.due("the second", r.like(0, 1), 6);
        Check.due("the servant itself, asked again", r.like(0, 2), 7);
        Check.due("no fourth", r.like(0, 3), NONE);
        Check.due("of another church", r.like(0, NONE), 6);
        Check.due("the other way: the first", r.like(6, 0), 0);
        Check.due("the other way: the second", r.like(6, 1), 1);
        Check.due("the other way: of another church", r.like(6, NONE), 0);
    }

    private static void likesByAge() {
        ServantRegistry r = new ServantRegistry();
        r.house(0);
        r.place(0, 0, 10, 0, 0, NONE);
        r.servant(-20 * 365, 0, 0, 0);
        r.servant(-26 * 365 + 1, 0, 1, 0);
        r.servant(-26 * 365, 0, 1, 0);
        r.servant(-15 * 365, 0, 1, 0);
        r.servant(-15 * 365 + 1, 0, 1, 0);
        r.ask(0, 0, true);
        for (int s = 1; s < 5; s++) {
            r.ask(s, 0, false);
        }
        Check.due("25 and 20", r.like(0, 0), 1);
        Check.due("15 and 20", r.like(0, 1), 3);
        Check.due("neither 26 nor 14", r.like(0, 2), NONE);
        r.day(1);
        r.ask(1, 0, false);
        r.ask(4, 0, false);
        Check.due("14, which is 15 on the ask's day", r.like(0, 2), 6);
        Check.due("25, which is 26 on the ask's day", r.like(0, 3), NONE);
    }

    private static ServantRegistry withPlacings(int many) {
        ServantRegistry r = new ServantRegistry();
        r.servant(-9000, 0, 0, 0);
        r.house(0);
        r.place(0, 0, 10, 0, 0, NONE);
        for (int i = 0; i < many; i++) {
            r.placing(0, 0, 0);
        }
        return r;
    }

    private static void boxes() {
        ServantRegistry r = withPlacings(32);
        Check.rules(r, "box 70;");
        Check.due("no placing", r.box(32, 5), NONE);
        Check.due("placing below", r.box(-1, 5), NONE);
        Check.due("worth below", r.box(0, 0), NONE);
        Check.due("worth beyond", r.box(0, 10000), NONE);
        Check.due("its worth", r.box(0, 69), 69);
        Check.due("told again", r.box(0, 69), NONE);
        Check.due("at most", r.box(1, 9999), 70);
        Check.due("the least", r.box(2, 1), 1);
        Check.due("three boxes", r.count(10), 3);
        Check.due("all paid", r.count(11), 140);
        for (int i = 3; i < 30; i++) {
            Check.due("box " + i, r.box(i, 70), 70);
        }
        Check.due("the 31st", r.box(30, 5), NONE);
        Check.due("30 are told", r.count(10), 30);
        Check.due("all paid at last", r.count(11), 140 + 27 * 70);
    }

    private static void boxesByDays() {
        ServantRegistry r = withPlacings(3);
        Check.due("bare", r.box(0, 50), 0);
        Check.due("told again, though nothing was paid", r.box(0, 50), NONE);
        Check.rules(r, "box 70;box 20;");
        Check.due("by today's rules", r.box(1, 50), 20);
        r.day(5);
        Check.rules(r, "box 30;");
        r.undo(2);
        Check.due("by today's rules, though undone", r.box(2, 50), 30);
        Check.due("all paid", r.count(11), 50);
    }

    /** Houses 0 and 1 in town 0, house 2 in town 1 five days off, a place in each; day 200. */
    private static ServantRegistry housesReady() {
        ServantRegistry r = new ServantRegistry();
        r.servant(-9000, 0, 0, 0);
        r.lag(1, 5);
        for (int h = 0; h < 3; h++) {
            r.house(h / 2);
            r.place(h, 0, 100, 0, 0, NONE);
        }
        r.day(200);
        return r;
    }

    private static void place(ServantRegistry r, int house, int left, int cause) {
        int placing = r.placing(0, house, 100);
        if (left >= 0) {
            r.leave(placing, left, 0, cause);
        }
    }

    private static void leftMore() {
        ServantRegistry r = housesReady();
        Check.due("no placings", r.leftMore(0), 0);
        Check.due("no house", r.leftMore(3), NONE);
        Check.due("house below", r.leftMore(-1), NONE);
        place(r, 0, 110, 0);
        place(r, 0, 110, 1);
        for (int i = 0; i < 4; i++) {
            place(r, 1, NONE, 0);
        }
        Check.due("two placings are too few", r.leftMore(0), 0);
        place(r, 0, NONE, 2);
        Check.due("66 of 100 against 28", r.leftMore(0), 1);
        Check.due("house 1", r.leftMore(1), 0);
        place(r, 1, 160, 2);
        Check.due("66 of 100 against 37", r.leftMore(0), 0);
    }

    private static void leftMoreAtItsEdges() {
        ServantRegistry r = housesReady();
        for (int i = 0; i < 3; i++) {
            place(r, 0, 100, i);
            place(r, 1, 161, i);
        }
        Check.due("100 of 100 against twice 50", r.leftMore(0), 0);
        place(r, 1, 110, 3);
        Check.due("100 of 100 against twice 42", r.leftMore(0), 1);
        place(r, 1, 110, 4);
        Check.due("within 60 days because of 0 to 2 alone", r.leftMore(1), 0);
        ServantRegistry cut = housesReady();
        place(cut, 0, 160, 0);
        place(cut, 0, 160, 1);
        place(cut, 0, NONE, 0);
        for (int i = 0; i < 3; i++) {
            place(cut, 1, NONE, 0);
        }
        Check.due("66 of 100 against twice 33", cut.leftMore(0), 0);
    }

    private static void leftMoreAsKnown() {
        ServantRegistry r = housesReady();
        for (int i = 0; i < 3; i++) {
            place(r, 2, NONE, 0);
            place(r, 1, NONE, 0);
        }
        place(r, 1, NONE, 0);
        r.day(205);
        r.leave(0, 101, 0, 0);
        r.leave(2, 101, 0, 0);
        Check.due("that they're left isn't known yet", r.leftMore(2), 0);
        r.day(210);
        Check.due("that they're left is known", r.leftMore(2), 1);
        r.undo(4);
        Check.due("without the undone one they're too few", r.leftMore(2), 0);
        ServantRegistry late = housesReady();
        for (int i = 0; i < 3; i++) {
            place(late, 2, 101, 0);
        }
        for (int i = 0; i < 4; i++) {
            place(late, 1, NONE, 0);
        }
        Check.due("not known yet", late.leftMore(2), 0);
        late.day(205);
        Check.due("known", late.leftMore(2), 1);
    }
}
