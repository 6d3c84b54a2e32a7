/** Part 4 of the document's terms (STEPS) and promise 28: a test for each sentence that names a bound. */
public final class StepBoundsTest {
    private static final int NONE = ServantRegistry.NONE;
    private static final String[] POSTS = {"kitchen", "house", "nurse", "cook", "coach", "butler"};

    public static void main(String[] args) {
        nDaysOrMore();
        afterNoDays();
        whoWasOrIsInIt();
        upToToday();
        allTogether();
        asKnownToday();
        byTheRulesOfToday();
        fewestSteps();
        fewestDaysOfThose();
        daysThatAreServed();
        theLongestLadder();
        noWay();
        stepsOfNoneSuch();
        Check.end();
    }

    private static ServantRegistry ready(String rules) {
        return Given.withRules(Given.registry(1, 1, 6), rules);
    }

    private static void due(String when, ServantRegistry r, int post, int steps, int days) {
        Check.due(when + ": steps to " + POSTS[post], r.steps(0, post, 0), steps);
        Check.due(when + ": days to " + POSTS[post], r.steps(0, post, 1), days);
    }

    /** "who was n DAYS or more IN a POST a ... may take b". */
    private static void nDaysOrMore() {
        for (int n : new int[] {1, 2, 30, 999, 1000}) {
            ServantRegistry r = ready("step kitchen cook after " + n + ";");
            r.placing(0, 0, 0);
            if (n > 1) {
                Given.onDay(r, n - 2);
                due("a day less than " + n, r, 3, 1, 1);
            }
            if (n <= 1000) {
                Given.onDay(r, n - 1);
                due(n + " days", r, 3, 0, 0);
            }
        }
        ServantRegistry r = ready("step kitchen cook after 1001;step kitchen coach after 9999;");
        r.placing(0, 0, 0);
        r.day(999);
        due("a thousand days, one lacks", r, 3, 1, 1);
        due("a thousand days, 8999 lack", r, 4, 1, 8999);
    }

    private static void afterNoDays() {
        ServantRegistry r = ready("step kitchen cook after 0;step house coach after 1;step cook butler after 3;");
        due("after 0: anyone", r, 3, 0, 0);
        due("after 1: not anyone", r, 4, NONE, NONE);
        due("a step more", r, 5, 1, 3);
        due("not the post it comes from", r, 0, NONE, NONE);
    }

    /** "(anyone who was or is IN b, too)". */
    private static void whoWasOrIsInIt() {
        for (int post = 0; post < 6; post++) {
            ServantRegistry r = ready("");
            due("never", r, post, NONE, NONE);
            r.placing(0, post, 0);
            due("is in it", r, post, 0, 0);
            r.leave(0, 0, 0, 0);
            due("left on its first day", r, post, NONE, NONE);
            r.placing(0, post, 0);
            r.day(1);
            r.leave(1, 1, 0, 0);
            r.day(999);
            due("was in it for a day", r, post, 0, 0);
            due("not another one", r, (post + 1) % 6, NONE, NONE);
        }
    }

    /** "up to TODAY". */
    private static void upToToday() {
        ServantRegistry r = ready("step kitchen cook after 100;");
        r.day(20);
        r.placing(0, 0, 20);
        due("today alone", r, 3, 1, 99);
        r.day(21);
        due("two days", r, 3, 1, 98);
        r.placing(0, 1, 21);
        due("in another one today", r, 3, 1, 99);
        due("in that one today", r, 1, 0, 0);
        r.day(22);
        r.leave(1, 22, 0, 0);
        due("left today: back in the first", r, 3, 1, 98);
    }

    /** "all together". */
    private static void allTogether() {
        ServantRegistry r = ready("step kitchen cook after 10;");
        r.place(0, 0, 1, 0, 0, NONE);
        r.day(100);
        int[][] spans = {{0, 3}, {10, 13}, {20, 23}};
        for (int i = 0; i < spans.length; i++) {
            r.placing(0, i == 1 ? 6 : 0, spans[i][0]);
            r.leave(i, spans[i][1], 0, 0);
        }
        due("nine days in three times and two places", r, 3, 1, 1);
        r.placing(0, 0, 50);
        r.leave(3, 51, 0, 0);
        due("ten days", r, 3, 0, 0);
        ServantRegistry twice = ready("step kitchen cook after 10;");
        twice.day(4);
        twice.placing(0, 0, 0);
        twice.placing(0, 0, 0);
        due("a day counts once", twice, 3, 1, 5);
    }

    /** "as KNOWN TODAY". */
    private static void asKnownToday() {
        ServantRegistry r = ready("step kitchen cook after 30;");
        r.lag(0, 6);
        r.day(20);
        r.placing(0, 0, 1);
        r.day(25);
        due("the letter isn't there", r, 0, NONE, NONE);
        r.day(26);
        due("the letter is there", r, 3, 1, 4);
        r.leave(0, 11, 0, 0);
        r.day(31);
        due("that it's left isn't known", r, 3, 0, 0);
        r.day(32);
        due("that it's left is known", r, 3, 1, 20);
        r.undo(0);
        due("undone today", r, 0, NONE, NONE);
    }

    private static void byTheRulesOfToday() {
        ServantRegistry r = ready("step kitchen cook after 1;");
        r.placing(0, 0, 0);
        due("by the first rules", r, 3, 0, 0);
        r.day(1);
        due("a day later", r, 3, 0, 0);
        Given.withRules(r, "step kitchen coach after 1;");
        due("by the next rules: cook", r, 3, NONE, NONE);
        due("by the next rules: coach", r, 4, 0, 0);
    }

    /** "The fewest further "steps" from any POST that the SERVANT may take NOW". */
    private static void fewestSteps() {
        ServantRegistry r = ready("step kitchen house after 10;step house nurse after 10;"
                + "step nurse cook after 10;step cook coach after 10;step kitchen coach after 9999;");
        r.placing(0, 0, 0);
        due("one step", r, 1, 1, 9);
        due("two steps", r, 2, 2, 19);
        due("three steps", r, 3, 3, 29);
        due("one long step ahead of four short ones", r, 4, 1, 9998);
        r.placing(0, 3, 0);
        due("from the post it's in", r, 4, 1, 9);
        due("the first one isn't served any more", r, 0, NONE, NONE);
    }

    /** "and the fewest DAYS that have still to be served for these ways, of those of fewest steps". */
    private static void fewestDaysOfThose() {
        ServantRegistry r = ready("step kitchen house after 50;step kitchen nurse after 20;"
                + "step house butler after 5;step nurse butler after 36;step nurse butler after 37;"
                + "step kitchen cook after 2;step cook coach after 1;step coach butler after 1;");
        r.placing(0, 0, 0);
        due("54 days by house, 55 by nurse", r, 5, 2, 54);
        r.day(14);
        due("nearer days, both ways", r, 2, 1, 5);
        r.day(15);
        due("cook may be taken: two steps by it", r, 5, 2, 2);
        ServantRegistry q = ready("step kitchen cook after 9;step kitchen cook after 7;step kitchen cook after 8;");
        q.placing(0, 0, 0);
        due("the shortest of three like steps", q, 3, 1, 6);
        ServantRegistry two = ready("step kitchen cook after 90;step house cook after 10;");
        two.day(50);
        two.placing(0, 0, 0);
        two.leave(0, 45, 0, 0);
        two.placing(0, 1, 45);
        due("from either post", two, 3, 1, 4);
    }

    /** Days already served in a post on the way lessen what it takes. */
    private static void daysThatAreServed() {
        ServantRegistry r = ready("step kitchen house after 10;step house butler after 10;");
        r.day(20);
        r.placing(0, 1, 0);
        r.leave(0, 4, 0, 0);
        r.placing(0, 0, 4);
        r.leave(1, 9, 0, 0);
        due("house was served", r, 1, 0, 0);
        due("four of ten days in it", r, 5, 1, 6);
        ServantRegistry q = ready("step kitchen house after 10;step house butler after 10;"
                + "step butler cook after 10;");
        q.day(20);
        q.placing(0, 5, 0);
        q.leave(0, 15, 0, 0);
        q.placing(0, 0, 15);
        q.leave(1, 18, 0, 0);
        due("a step that is served altogether", q, 3, 0, 0);
        due("seven of ten lack", q, 1, 1, 7);
    }

    private static void theLongestLadder() {
        ServantRegistry r = ready("step coach butler after 9999;step cook coach after 9999;"
                + "step nurse cook after 9999;step house nurse after 9999;step kitchen house after 9999;");
        r.placing(0, 0, 0);
        for (int post = 0; post < 6; post++) {
            due("up the ladder", r, post, post, post == 0 ? 0 : post * 9999 - 1);
        }
        StringBuilder text = new StringBuilder();
        for (int i = 0; i < 20; i++) {
            text.append("step ").append(POSTS[i % 5]).append(' ').append(POSTS[i % 5 + 1]).append(" after ")
                    .append(100 - i).append(';');
        }
        ServantRegistry q = ready(text.toString());
        q.placing(0, 0, 0);
        due("twenty steps", q, 5, 5, 84 + 84 + 83 + 82 + 81);
    }

    /** "NONE: none such, no way." */
    private static void noWay() {
        ServantRegistry r = ready("step cook kitchen after 1;step house house after 1;step butler house after 1;");
        r.placing(0, 0, 0);
        due("it has it", r, 0, 0, 0);
        for (int post = 1; post < 6; post++) {
            due("no way", r, post, NONE, NONE);
        }
    }

    private static void stepsOfNoneSuch() {
        ServantRegistry r = Given.registry(24, 1, 6);
        Given.withRules(r, "step cook kitchen after 0;step cook house after 0;step cook nurse after 0;"
                + "step cook cook after 0;step cook coach after 0;step cook butler after 0;");
        Bounds.due("steps' servant", 0, 23, s -> r.steps(s, 0, 0) == 0);
        Bounds.due("steps' post", 0, 5, post -> r.steps(0, post, 0) == 0);
        Bounds.due("steps' what", 0, 1, what -> r.steps(0, 0, what) == 0);
        Bounds.none("steps' servant of none", s -> new ServantRegistry().steps(s, 0, 0) != NONE);
    }
}
