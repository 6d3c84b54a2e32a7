/**
 * Part 3 of the document's terms (FEES, BACK, WAGES, OWED) and promises 13 and 14: a test for each
 * sentence that names a bound of what is paid.
 */
public final class MoneyBoundsTest {
    private static final int NONE = ServantRegistry.NONE;

    public static void main(String[] args) {
        feesAreCut();
        feesByTheDayItBegan();
        backWithinSoManyDays();
        backIsCut();
        backWhetherUndoneOrNotKnown();
        wagesAreCut();
        wagesOfTheDaysItWasOn();
        wagesWithoutTheDayItsLeft();
        wagesOfNoneSuch();
        owedIfNoticeWasLess();
        owedIsCut();
        owedUnlessBecauseOf0Or4();
        owedByTheRulesOfThatDay();
        Check.end();
    }

    private static ServantRegistry withWage(int wage, String rules) {
        ServantRegistry r = Given.registry(1, 1, 0);
        r.place(0, 0, wage, 0, 0, NONE);
        return Given.withRules(r, rules);
    }

    /** "NUMBER and so many hundredths of the WAGE (cut), by HOUSE and by SERVANT". */
    private static void feesAreCut() {
        int[][] fees = {{1, 0, 0, 0}, {1, 0, 99, 0}, {1, 0, 100, 1}, {1, 0, 199, 1}, {1, 5, 300, 8},
            {99, 0, 1, 0}, {100, 0, 1, 1}, {199, 7, 1, 8}, {999, 0, 0, 0}, {999, 9999, 0, 9999},
            {999, 9999, 300, 12996}, {999, 0, 10, 99}, {33, 3, 10, 6}};
        for (int[] fee : fees) {
            String numbers = fee[1] + " " + fee[2] + ";";
            ServantRegistry house = withWage(fee[0], "fee house " + numbers);
            house.placing(0, 0, 0);
            Check.due("house's fee " + numbers, house.placed(0, 8), fee[3]);
            Check.due("no servant's fee", house.placed(0, 9), 0);
            ServantRegistry servant = withWage(fee[0], "fee servant " + numbers);
            servant.placing(0, 0, 0);
            Check.due("servant's fee " + numbers, servant.placed(0, 9), fee[3]);
            Check.due("no house's fee", servant.placed(0, 8), 0);
        }
    }

    /** "FEES of a placing, by the rules of the DAY on which it began". */
    private static void feesByTheDayItBegan() {
        ServantRegistry r = Given.registry(1, 1, 1);
        r.day(10);
        Given.withRules(r, "fee house 1 0;fee servant 2 0;");
        r.day(20);
        Given.withRules(r, "fee house 3 0;fee servant 4 0;");
        int[][] due = {{0, 0, 0}, {9, 0, 0}, {10, 1, 2}, {19, 1, 2}, {20, 3, 4}};
        for (int[] of : due) {
            int placing = r.placing(0, 0, of[0]);
            Check.due("house's fee, begun on " + of[0], r.placed(placing, 8), of[1]);
            Check.due("servant's fee, begun on " + of[0], r.placed(placing, 9), of[2]);
        }
    }

    private static int back(String rules, int from, int left) {
        ServantRegistry r = withWage(100, "fee house 200 0;" + rules);
        r.day(999);
        r.placing(0, 0, from);
        r.leave(0, left, 0, 0);
        return r.placed(0, 10);
    }

    /** "if it's LEFT within so many DAYS of its beginning". */
    private static void backWithinSoManyDays() {
        Check.due("within 0: on its first day", back("back 50 within 0;", 7, 7), 100);
        Check.due("within 0: a day later", back("back 50 within 0;", 7, 8), 0);
        Check.due("within 10: the day before", back("back 50 within 10;", 7, 16), 100);
        Check.due("within 10: on that day", back("back 50 within 10;", 7, 17), 100);
        Check.due("within 10: a day later", back("back 50 within 10;", 7, 18), 0);
        Check.due("within 998: not on the last day", back("back 50 within 998;", 0, 999), 0);
        Check.due("within 999: on the last day", back("back 50 within 999;", 0, 999), 100);
        Check.due("within 9999", back("back 50 within 9999;", 0, 999), 100);
        Check.due("bare of back", back("", 7, 7), 0);
        ServantRegistry r = withWage(100, "fee house 200 0;back 50 within 9999;");
        r.placing(0, 0, 0);
        Check.due("not left", r.placed(0, 10), 0);
        r.day(5);
        Check.due("not left yet", r.placed(0, 10), 0);
        r.leave(0, 5, 0, 0);
        Check.due("left", r.placed(0, 10), 100);
    }

    /** "so many hundredths (cut) of its fee". */
    private static void backIsCut() {
        int[][] due = {{1, 99, 0}, {1, 100, 1}, {99, 1, 0}, {100, 1, 1}, {199, 1, 1}, {33, 50, 16},
            {9999, 0, 0}, {9999, 100, 9999}, {0, 100, 0}};
        for (int[] of : due) {
            ServantRegistry r = withWage(1, "fee house " + of[0] + " 0;fee servant 777 0;back " + of[1]
                    + " within 0;");
            r.placing(0, 0, 0);
            r.leave(0, 0, 0, 0);
            Check.due(of[1] + " hundredths of " + of[0], r.placed(0, 10), of[2]);
        }
        ServantRegistry most = withWage(999, "fee house 9999 300;back 100 within 0;");
        most.placing(0, 0, 0);
        most.leave(0, 0, 0, 0);
        Check.due("all of the greatest fee", most.placed(0, 10), 12996);
    }

    /** "(undone or not known matters not)". */
    private static void backWhetherUndoneOrNotKnown() {
        ServantRegistry r = withWage(100, "fee house 200 0;back 50 within 5;");
        r.lag(0, 30);
        r.placing(0, 0, 0);
        r.leave(0, 0, 0, 1);
        Check.due("neither is known", r.placed(0, 10), 100);
        Check.due("owed, neither is known", r.placed(0, 11), -100);
        r.undo(0);
        Check.due("undone", r.placed(0, 10), 100);
        Check.due("owed, undone", r.placed(0, 11), -100);
        r.placing(0, 0, 0);
        r.undo(1);
        r.leave(1, 0, 0, 1);
        Check.due("left when undone", r.placed(1, 10), 100);
    }

    /** "times WAGE by 30, cut". */
    private static void wagesAreCut() {
        int[][] due = {{1, 1, 0}, {1, 29, 0}, {1, 30, 1}, {1, 59, 1}, {1, 60, 2}, {29, 1, 0}, {30, 1, 1},
            {59, 1, 1}, {100, 10, 33}, {999, 1, 33}, {999, 1000, 33300}, {7, 13, 3}};
        for (int[] of : due) {
            ServantRegistry r = withWage(of[0], "");
            r.placing(0, 0, 0);
            Check.due("wage " + of[0] + " for " + of[1] + " days", r.wages(0, 0, of[1] - 1), of[2]);
        }
    }

    /** "WAGES for DAYS from a DAY to another one: those it was on among them". */
    private static void wagesOfTheDaysItWasOn() {
        ServantRegistry r = withWage(30, "");
        r.day(500);
        r.placing(0, 0, 100);
        int[][] due = {{0, 99, 0}, {0, 100, 1}, {0, 101, 2}, {99, 99, 0}, {99, 100, 1}, {100, 100, 1},
            {100, 101, 2}, {101, 101, 1}, {100, 999, 900}, {0, 999, 900}, {999, 999, 1}, {998, 999, 2},
            {0, 0, 0}, {500, 501, 2}};
        for (int[] of : due) {
            Check.due("wages from " + of[0] + " to " + of[1], r.wages(0, of[0], of[1]), of[2]);
        }
        ServantRegistry last = withWage(30, "");
        last.day(999);
        last.placing(0, 0, 999);
        Check.due("begun on the last day", last.wages(0, 0, 999), 1);
        Check.due("the day before", last.wages(0, 0, 998), 0);
    }

    /** "(LEFT's DAY isn't one)". */
    private static void wagesWithoutTheDayItsLeft() {
        ServantRegistry r = withWage(30, "");
        r.day(500);
        r.placing(0, 0, 100);
        r.leave(0, 110, 0, 0);
        int[][] due = {{0, 999, 10}, {100, 109, 10}, {100, 110, 10}, {100, 108, 9}, {109, 109, 1},
            {109, 110, 1}, {110, 110, 0}, {110, 999, 0}, {111, 999, 0}, {105, 107, 3}};
        for (int[] of : due) {
            Check.due("left: wages from " + of[0] + " to " + of[1], r.wages(0, of[0], of[1]), of[2]);
        }
        r.placing(0, 0, 100);
        r.leave(1, 100, 0, 0);
        Check.due("left on its first day", r.wages(1, 0, 999), 0);
        r.placing(0, 0, 100);
        r.leave(2, 101, 0, 0);
        Check.due("left on its second day", r.wages(2, 0, 999), 1);
    }

    /** "WAGES from a DAY to another one (0 to 999, not ahead of the first). NONE: none such, not as told." */
    private static void wagesOfNoneSuch() {
        ServantRegistry r = withWage(30, "");
        r.placing(0, 0, 0);
        Bounds.due("wages' placing", 0, 0, p -> r.wages(p, 0, 999) != NONE);
        Bounds.due("wages' from", 0, 999, from -> r.wages(0, from, 999) != NONE);
        Bounds.due("wages' to", 0, 999, to -> r.wages(0, 0, to) != NONE);
        Bounds.due("wages' to, from 500 on", 500, 999, to -> r.wages(0, 500, to) != NONE);
        Bounds.due("wages' from, to 500", 0, 500, from -> r.wages(0, from, 500) != NONE);
        Bounds.none("wages' placing of none", p -> new ServantRegistry().wages(p, 0, 0) != NONE);
        Check.due("the greatest of all", r.wages(0, Integer.MIN_VALUE, Integer.MAX_VALUE), NONE);
    }

    private static int owed(int wage, String rules, int notice, int cause) {
        ServantRegistry r = withWage(wage, rules);
        r.placing(0, 0, 0);
        Check.due("nothing is owed before it's left", r.placed(0, 11), 0);
        r.leave(0, 0, notice, cause);
        return r.placed(0, 11);
    }

    /** "if NOTICE was less than the rules of that DAY tell: the SERVANT owes (below 0)". */
    private static void owedIfNoticeWasLess() {
        Check.due("notice 14 of 14", owed(300, "notice 14;", 14, 1), 0);
        Check.due("notice 13 of 14", owed(300, "notice 14;", 13, 1), -10);
        Check.due("notice 15 of 14", owed(300, "notice 14;", 15, 1), 0);
        Check.due("notice 0 of 14", owed(300, "notice 14;", 0, 1), -140);
        Check.due("notice 0 of 0", owed(300, "notice 0;", 0, 1), 0);
        Check.due("notice 0 of 1", owed(300, "notice 1;", 0, 1), -10);
        Check.due("notice 99 of 99", owed(300, "notice 99;", 99, 1), 0);
        Check.due("notice 99 of 100", owed(300, "notice 100;", 99, 1), -10);
        Check.due("bare: notice 30", owed(300, "", 30, 1), 0);
        Check.due("bare: notice 29", owed(300, "", 29, 1), -10);
        Check.due("all of the greatest", owed(999, "notice 9999;", 0, 1), -332966);
    }

    /** "WAGE times the DAYS that lack by 30 (cut)". */
    private static void owedIsCut() {
        Check.due("1 for 1 day", owed(1, "notice 1;", 0, 1), 0);
        Check.due("1 for 29 days", owed(1, "notice 29;", 0, 1), 0);
        Check.due("1 for 30 days", owed(1, "notice 30;", 0, 1), -1);
        Check.due("1 for 59 days", owed(1, "notice 59;", 0, 1), -1);
        Check.due("29 for 1 day", owed(29, "notice 1;", 0, 1), 0);
        Check.due("100 for 1 day", owed(100, "notice 1;", 0, 1), -3);
        Check.due("100 for 2 days", owed(100, "notice 9;", 7, 1), -6);
    }

    /** "unless it's because of 0 or 4; else 0". */
    private static void owedUnlessBecauseOf0Or4() {
        int[] due = {0, -300, -300, -300, 0};
        for (int cause = 0; cause < due.length; cause++) {
            Check.due("because of " + cause, owed(300, "", 0, cause), due[cause]);
        }
    }

    private static void owedByTheRulesOfThatDay() {
        ServantRegistry r = withWage(30, "notice 1;");
        r.day(10);
        Given.withRules(r, "notice 2;");
        r.day(20);
        Given.withRules(r, "notice 3;");
        int[][] due = {{0, -1}, {9, -1}, {10, -2}, {19, -2}, {20, -3}};
        for (int[] of : due) {
            int placing = r.placing(0, 0, 0);
            r.leave(placing, of[0], 0, 1);
            Check.due("owed, left on " + of[0], r.placed(placing, 11), of[1]);
        }
    }
}
