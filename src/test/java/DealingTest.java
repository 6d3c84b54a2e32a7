/** Promises 24 to 27: wishes, the dealing that no pair would leave, and rows judged by it. */
public final class DealingTest {
    private static final int NONE = ServantRegistry.NONE;

    public static void main(String[] args) {
        wishing();
        longWishes();
        bestForServants();
        onlyWishedOnes();
        whoTakesPart();
        unfitOnes();
        telling();
        judging();
        judgingWhatMayNotBe();
        Check.end();
    }

    private static ServantRegistry ready(int servants, int places) {
        ServantRegistry r = new ServantRegistry();
        r.house(0);
        for (int s = 0; s < servants; s++) {
            r.servant(-9000, 0, 0, 0);
        }
        for (int p = 0; p < places; p++) {
            r.place(0, 0, 100, 0, 0, NONE);
        }
        return r;
    }

    private static long row(int... numbers) {
        long row = 0;
        for (int number : numbers) {
            row = row * 32 + number + 1;
        }
        return row;
    }

    private static void wishing() {
        ServantRegistry r = ready(2, 3);
        Check.due("none", r.wish(0, 0, 0), 0);
        Check.due("three", r.wish(0, 0, row(2, 0, 1)), 3);
        Check.due("a place's", r.wish(1, 2, row(1, 0)), 2);
        Check.due("no such place", r.wish(0, 0, row(3)), NONE);
        Check.due("no such servant", r.wish(1, 0, row(2)), NONE);
        Check.due("twice", r.wish(0, 0, row(1, 2, 1)), NONE);
        Check.due("a 0 at the end", r.wish(0, 0, row(1) * 32), NONE);
        Check.due("a 0 between", r.wish(0, 0, row(1) * 1024 + 1), NONE);
        Check.due("below 0", r.wish(0, 0, -1), NONE);
        Check.due("far below 0", r.wish(0, 0, Long.MIN_VALUE), NONE);
        Check.due("the greatest", r.wish(0, 0, Long.MAX_VALUE), NONE);
        Check.due("servant beyond", r.wish(0, 2, 0), NONE);
        Check.due("servant below", r.wish(0, -1, 0), NONE);
        Check.due("place beyond", r.wish(1, 3, 0), NONE);
        Check.due("place below", r.wish(1, -1, 0), NONE);
        Check.due("side below", r.wish(-1, 0, 0), NONE);
        Check.due("side beyond", r.wish(2, 0, 0), NONE);
        r.wish(1, 0, row(0));
        r.wish(1, 1, row(0));
        r.wish(1, 2, row(0));
        Check.due("the wishes stand after wrong ones", r.dealt(0), 2);
        r.wish(0, 0, row(1));
        Check.due("later wishes are put in their stead", r.dealt(0), 1);
        r.wish(0, 0, 0);
        Check.due("no wishes any more", r.dealt(0), NONE);
    }

    private static void longWishes() {
        ServantRegistry r = ready(24, 30);
        Check.due("thirteen", r.wish(0, 0, row(6, 29, 28, 27, 26, 25, 24, 23, 22, 21, 20, 19, 18)), 13);
        Check.due("thirteen servants", r.wish(1, 6, row(0, 23, 22, 21, 20, 19, 18, 17, 16, 15, 14, 13, 12)), 13);
        Check.due("the first of thirteen", r.dealt(0), 6);
        r.wish(1, 6, 0);
        r.wish(1, 18, row(0));
        Check.due("the last of thirteen", r.dealt(0), 18);
        Check.due("place 30", r.wish(0, 1, 31), NONE);
        Check.due("servant 24", r.wish(1, 1, 25), NONE);
        Check.due("place 29", r.wish(0, 1, 30), 1);
    }

    private static void bestForServants() {
        ServantRegistry r = ready(3, 3);
        for (int i = 0; i < 3; i++) {
            r.wish(0, i, row(i, (i + 1) % 3, (i + 2) % 3));
            r.wish(1, i, row((i + 1) % 3, (i + 2) % 3, i));
        }
        for (int i = 0; i < 3; i++) {
            Check.due("each gets its best", r.dealt(i), i);
        }
        r.wish(0, 2, row(0, 1, 2));
        Check.due("one gives way: 0", r.dealt(0), 1);
        Check.due("one gives way: 1", r.dealt(1), 2);
        Check.due("one gives way: 2", r.dealt(2), 0);
        Check.due("no servant", r.dealt(3), NONE);
        Check.due("servant below", r.dealt(-1), NONE);
    }

    private static void onlyWishedOnes() {
        ServantRegistry r = ready(2, 2);
        r.wish(0, 0, row(0, 1));
        r.wish(0, 1, row(0));
        r.wish(1, 0, row(1));
        Check.due("not wished by either", r.dealt(0), NONE);
        Check.due("wished", r.dealt(1), 0);
        r.wish(1, 1, row(1, 0));
        Check.due("wished by the second", r.dealt(0), 1);
        Check.due("a place that it doesn't wish", r.dealt(1), 0);
    }

    private static void whoTakesPart() {
        ServantRegistry r = new ServantRegistry();
        r.house(0);
        r.house(1);
        r.lag(1, 5);
        for (int i = 0; i < 3; i++) {
            r.servant(-9000, 0, 0, 0);
            r.place(i == 1 ? 1 : 0, 0, 100, 0, 0, NONE);
        }
        for (int i = 0; i < 3; i++) {
            r.wish(0, i, row(1, 0, 2));
            r.wish(1, i, row(0, 1, 2));
        }
        r.day(10);
        r.placing(0, 1, 0);
        Check.due("not known yet", r.dealt(0), 1);
        r.day(15);
        Check.due("is in a place", r.dealt(0), NONE);
        Check.due("the place is filled", r.dealt(1), 0);
        Check.due("what is left", r.dealt(2), 2);
        r.leave(0, 15, 0, 0);
        Check.due("that it's left isn't known yet", r.dealt(0), NONE);
        r.day(20);
        Check.due("that it's left is known", r.dealt(0), 1);
        r.placing(1, 2, 0);
        r.undo(1);
        Check.due("undone", r.dealt(1), 0);
    }

    private static void unfitOnes() {
        ServantRegistry r = new ServantRegistry();
        r.house(0);
        r.servant(0, 0, 0, 0);
        r.place(0, 0, 100, 0, 1, NONE);
        r.place(0, 0, 100, 0, 0, NONE);
        r.wish(0, 0, row(0, 1));
        r.wish(1, 0, row(0));
        r.wish(1, 1, row(0));
        r.day(364);
        Check.due("too young today", r.dealt(0), 1);
        r.day(365);
        Check.due("old enough today", r.dealt(0), 0);
        Check.rules(r, "least kitchen 101;");
        Check.due("by today's rules", r.dealt(0), NONE);
    }

    private static void telling() {
        ServantRegistry r = ready(1, 1);
        Check.due("no servant", r.tell(1, 0), false);
        Check.due("servant below", r.tell(-1, NONE), false);
        Check.due("no place", r.tell(0, 1), false);
        Check.due("place below", r.tell(0, -2), false);
        Check.due("none", r.tell(0, NONE), true);
        Check.due("none told, none would leave", r.judge(), NONE);
        Check.due("a place", r.tell(0, 0), true);
        Check.due("not wished", r.judge(), -2);
    }

    private static void judging() {
        ServantRegistry r = ready(3, 3);
        for (int i = 0; i < 3; i++) {
            r.wish(0, i, row(i, (i + 1) % 3, (i + 2) % 3));
            r.wish(1, i, row((i + 1) % 3, (i + 2) % 3, i));
        }
        Check.due("all are without", r.judge(), 0);
        r.tell(0, 0);
        Check.due("the place would leave too", r.judge(), 100);
        r.tell(1, 1);
        r.tell(2, 2);
        Check.due("best for servants", r.judge(), NONE);
        r.tell(0, 1);
        r.tell(1, 2);
        r.tell(2, 0);
        Check.due("between", r.judge(), NONE);
        r.tell(0, 2);
        r.tell(1, 0);
        r.tell(2, 1);
        Check.due("best for places", r.judge(), NONE);
        r.tell(0, 0);
        r.tell(1, 2);
        r.tell(2, 1);
        Check.due("the first pair by servants, then places", r.judge(), 200);
        r.tell(2, NONE);
        Check.due("one that is without", r.judge(), 101);
    }

    private static void judgingWhatMayNotBe() {
        ServantRegistry r = ready(3, 2);
        r.wish(0, 0, row(0));
        r.wish(0, 1, row(0, 1));
        r.wish(0, 2, row(0, 1));
        r.wish(1, 0, row(2, 1));
        r.wish(1, 1, row(1, 2));
        r.tell(0, 0);
        Check.due("not wished by the place", r.judge(), -2);
        r.tell(0, NONE);
        r.tell(1, 0);
        r.tell(2, 0);
        Check.due("another one has it", r.judge(), -4);
        r.tell(0, 1);
        Check.due("the least of them", r.judge(), -2);
        r.tell(0, NONE);
        r.tell(2, 1);
        Check.due("a pair would leave", r.judge(), 200);
        r.day(1);
        r.placing(2, 1, 0);
        Check.due("is in a place", r.judge(), -4);
        r.tell(2, NONE);
        Check.due("without it", r.judge(), NONE);
        r.tell(1, 1);
        Check.due("the place is filled", r.judge(), -3);
        r.tell(1, 0);
        Check.rules(r, "least kitchen 101;");
        Check.due("unfit by today's rules", r.judge(), -3);
        r.tell(1, NONE);
        Check.due("nobody takes part", r.judge(), NONE);
    }
}
