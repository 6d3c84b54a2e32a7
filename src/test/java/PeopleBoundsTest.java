/**
 * Part 1 of the document's terms and promises 1 to 9 and 37: a test for each sentence that names a
 * bound of what is told to the registry.
 */
public final class PeopleBoundsTest {
    private static final int NONE = ServantRegistry.NONE;

    public static void main(String[] args) {
        todayIsZeroAtFirst();
        todayBecomesALaterDay();
        noServantsHousesRulesAtFirst();
        upTo24Servants();
        bornFromMinus20000ToToday();
        skillsChurchAndTownOfAServant();
        ageIsCutAndZeroAtLeast();
        ageOfTheOldest();
        upTo12HousesInATown();
        lagFrom0To30();
        lagIs0AtFirst();
        upTo30Places();
        placeAsTold();
        upTo60Placings();
        placingUpToToday();
        leftFromItsBeginningToToday();
        noticeAndCause();
        leftOnce();
        undoneOnce();
        countsFrom0To12();
        Check.end();
    }

    /** "DAYS 0 to 999: TODAY is 0 at first." */
    private static void todayIsZeroAtFirst() {
        Check.due("today at first", new ServantRegistry().count(0), 0);
        ServantRegistry r = Given.registry(1, 1, 1);
        Check.due("from tomorrow at first", r.placing(0, 0, 1), NONE);
        Check.due("from today at first", r.placing(0, 0, 0), 0);
    }

    /** "TODAY becomes a later DAY: true; false: it isn't, above 999." */
    private static void todayBecomesALaterDay() {
        Bounds.due("day at first", 1, 999, d -> new ServantRegistry().day(d));
        Bounds.due("day on 500", 501, 999, d -> Given.onDay(500).day(d));
        Bounds.due("day on 998", 999, 999, d -> Given.onDay(998).day(d));
        Bounds.none("day on 999", d -> Given.onDay(999).day(d));
        ServantRegistry r = Given.onDay(500);
        for (int refused : new int[] {Integer.MIN_VALUE, -1, 0, 499, 500, 1000, Integer.MAX_VALUE}) {
            Check.due("day(" + refused + ")", r.day(refused), false);
            Check.due("today after day(" + refused + ")", r.count(0), 500);
        }
        Check.due("the next day", r.day(501), true);
        Check.due("today after the next day", r.count(0), 501);
        Check.due("the last day", r.day(999), true);
        Check.due("today at last", r.count(0), 999);
    }

    /** "No SERVANTS, HOUSES, RULES." */
    private static void noServantsHousesRulesAtFirst() {
        ServantRegistry other = Given.withRules(Given.registry(24, 12, 30), "box 5;");
        other.day(999);
        other.placing(0, 0, 0);
        ServantRegistry r = new ServantRegistry();
        for (int what = 0; what <= 12; what++) {
            Check.due("at first: count(" + what + ")", r.count(what), 0);
        }
        Check.due("at first: rules of a day", r.law(999, 7), NONE);
        Check.due("at first: servant 0", r.tell(0, NONE), false);
        Check.due("at first: house 0", r.leftMore(0), NONE);
        Check.due("at first: place 0", r.holder(0, 0, 0), NONE);
        Check.due("at first: placing 0", r.placed(0, 0), -2_000_000_000);
        Check.due("at first: character 0", r.written(0, 0), NONE);
        Check.due("at first: ask 0", r.like(0, 0), NONE);
        Check.due("at first: chain's rows", r.clear(), 0);
        Check.due("at first: the told row", r.judge(), NONE);
        Check.due("at first: the fault", r.fault(), NONE);
    }

    /** "SERVANTS, up to 24"; "NONE, doing nothing: not as told, 24 are there." */
    private static void upTo24Servants() {
        ServantRegistry r = Given.registry(0, 1, 1);
        for (int s = 0; s < 24; s++) {
            Check.due("servants", r.count(1), s);
            Check.due("servant " + s, r.servant(-9000, s, s % 4, s % 5), s);
        }
        Check.due("servant 24", r.servant(-9000, 0, 0, 0), NONE);
        Check.due("servants at last", r.count(1), 24);
        Check.due("the last one is there", r.fit(23, 0, 0), 0);
        Check.due("a 25th isn't", r.fit(24, 0, 0), NONE);
        Check.due("the last one is placed", r.placing(23, 0, 0), 0);
        Check.due("the last one is in it", r.in(23, 0, 0), 0);
        Check.due("the last one holds it", r.holder(0, 0, 0), 23);
    }

    /** "born on a DAY (-20,000 to TODAY)". */
    private static void bornFromMinus20000ToToday() {
        for (int today : new int[] {0, 1, 500, 999}) {
            Bounds.due("born, on day " + today, -20_000, today,
                    born -> Given.onDay(today).servant(born, 0, 0, 0) == 0);
        }
        ServantRegistry r = new ServantRegistry();
        Check.due("born tomorrow", r.servant(1, 0, 0, 0), NONE);
        r.day(1);
        Check.due("born on that day, today", r.servant(1, 0, 0, 0), 0);
    }

    /** "SKILLS (bits 0 to 255), CHURCH 0 to 3, TOWN 0 to 4". */
    private static void skillsChurchAndTownOfAServant() {
        Bounds.due("a servant's skills", 0, 255, v -> new ServantRegistry().servant(0, v, 0, 0) == 0);
        Bounds.due("a servant's church", 0, 3, v -> new ServantRegistry().servant(0, 0, v, 0) == 0);
        Bounds.due("a servant's town", 0, 4, v -> new ServantRegistry().servant(0, 0, 0, v) == 0);
        for (int bit = 0; bit < 8; bit++) {
            ServantRegistry r = Given.registry(0, 1, 0);
            r.servant(0, 1 << bit, 0, 0);
            r.servant(0, 255 - (1 << bit), 0, 0);
            r.place(0, 0, 1, 1 << bit, 0, NONE);
            Check.due("has bit " + bit, r.fit(0, 0, 0), 0);
            Check.due("has all bits but " + bit, r.fit(1, 0, 0), 1);
        }
    }

    private static boolean isOfAge(int born, int day, int age) {
        ServantRegistry r = Given.onDay(Given.registry(0, 1, 0), Math.max(0, born));
        r.servant(born, 0, 0, 0);
        r.place(0, 0, 1, 0, age, NONE);
        return r.fit(0, 0, day) == 0;
    }

    /** "AGE on a DAY: what it's later by 365, cut; 0 at least." */
    private static void ageIsCutAndZeroAtLeast() {
        for (int age = 1; age <= 2; age++) {
            Check.due("the day before it's " + age, isOfAge(0, 365 * age - 1, age), false);
            Check.due("the day on which it's " + age, isOfAge(0, 365 * age, age), true);
            Check.due("born on 100, the day before it's " + age, isOfAge(100, 365 * age + 99, age), false);
            Check.due("born on 100, the day on which it's " + age, isOfAge(100, 365 * age + 100, age), true);
        }
        Check.due("0 on its first day", isOfAge(500, 500, 0), true);
        Check.due("not 1 on its first day", isOfAge(500, 500, 1), false);
        Check.due("0 ahead of its birth", isOfAge(999, 0, 0), true);
        Check.due("not 1 ahead of its birth", isOfAge(999, 0, 1), false);
        ServantRegistry r = Given.registry(0, 1, 1);
        Given.withRules(r, "least kitchen 999 if age=0;");
        r.day(999);
        r.servant(999, 0, 0, 0);
        Check.due("0 two years ahead of its birth", r.fit(0, 0, 0), 4);
        Check.due("0 a day ahead of its birth", r.fit(0, 0, 998), 4);
    }

    private static void ageOfTheOldest() {
        Check.due("born on -20000: 54 on day 0", isOfAge(-20_000, 0, 54), true);
        Check.due("born on -20000: not 55 on day 0", isOfAge(-20_000, 0, 55), false);
        Check.due("born on -20000: 57 on day 999", isOfAge(-20_000, 999, 57), true);
        Check.due("born on -20000: not 58 on day 999", isOfAge(-20_000, 999, 58), false);
    }

    /** "HOUSES, up to 12, in a TOWN"; "NONE, doing nothing: not as told, 12 are there." */
    private static void upTo12HousesInATown() {
        Bounds.due("a house's town", 0, 4, town -> new ServantRegistry().house(town) == 0);
        ServantRegistry r = new ServantRegistry();
        for (int h = 0; h < 12; h++) {
            Check.due("houses", r.count(2), h);
            Check.due("house " + h, r.house(h % 5), h);
        }
        Check.due("house 12", r.house(0), NONE);
        Check.due("houses at last", r.count(2), 12);
        Check.due("a place of the last one", r.place(11, 0, 1, 0, 0, NONE), 0);
        Check.due("a place of a 13th", r.place(12, 0, 1, 0, 0, NONE), NONE);
        r.servant(-9000, 0, 0, 0);
        r.lag(1, 7);
        Check.due("the last one is in its town still", r.placed(r.placing(0, 0, 0), 5), 7);
    }

    private static boolean lagTells(int lag) {
        ServantRegistry r = Given.registry(1, 1, 1);
        return r.lag(0, lag) && r.placed(r.placing(0, 0, 0), 5) == lag;
    }

    /** "LAG of a TOWN: DAYS of letters from it (0 to 30; 0 at first)." */
    private static void lagFrom0To30() {
        Bounds.due("the lag's town", 0, 4, town -> new ServantRegistry().lag(town, 7));
        Bounds.due("the lag's days", 0, 30, days -> new ServantRegistry().lag(0, days));
        Bounds.due("the lag's days tell", 0, 30, days -> lagTells(days));
        ServantRegistry r = Given.registry(1, 1, 1);
        Check.due("a lag without a house in that town", r.lag(4, 30), true);
        Check.due("a lag of another town tells nothing", r.placed(r.placing(0, 0, 0), 5), 0);
        r.lag(0, 9);
        Check.due("a refused lag", r.lag(0, 31), false);
        Check.due("the lag stands behind it", r.placed(r.placing(0, 0, 0), 5), 9);
    }

    private static void lagIs0AtFirst() {
        for (int town = 0; town < 5; town++) {
            ServantRegistry r = Given.onDay(Given.registry(1, 0, 0), 40);
            r.house(town);
            r.place(0, 0, 1, 0, 0, NONE);
            Check.due("no lag of town " + town, r.placed(r.placing(0, 0, 3), 5), 40);
        }
    }

    /** "PLACES, up to 30"; "NONE, doing nothing: not as told (AGE 0 to 99), 30 are there." */
    private static void upTo30Places() {
        ServantRegistry r = Given.registry(1, 2, 0);
        for (int p = 0; p < 30; p++) {
            Check.due("places", r.count(3), p);
            Check.due("place " + p, r.place(p % 2, p % 6, 30 + p, 0, 0, NONE), p);
        }
        Check.due("place 30", r.place(0, 0, 1, 0, 0, NONE), NONE);
        Check.due("places at last", r.count(3), 30);
        Check.due("the last one is there", r.placing(0, 29, 0), 0);
        Check.due("the last one's wage", r.wages(0, 0, 29), 59);
        Check.due("a 31st isn't", r.placing(0, 30, 0), NONE);
    }

    private static ServantRegistry house() {
        return Given.registry(0, 1, 0);
    }

    /** "of a HOUSE, a POST, a WAGE for 30 DAYS (1 to 999), SKILLS wanted, an AGE least; a CHURCH". */
    private static void placeAsTold() {
        Bounds.none("a place's house", h -> new ServantRegistry().place(h, 0, 1, 0, 0, NONE) == 0);
        Bounds.due("a place's house of one", 0, 0, h -> house().place(h, 0, 1, 0, 0, NONE) == 0);
        Bounds.due("a place's house of twelve", 0, 11,
                h -> Given.registry(0, 12, 0).place(h, 0, 1, 0, 0, NONE) == 0);
        Bounds.due("a place's post", 0, 5, post -> house().place(0, post, 1, 0, 0, NONE) == 0);
        Bounds.due("a place's wage", 1, 999, wage -> house().place(0, 0, wage, 0, 0, NONE) == 0);
        Bounds.due("a place's skills", 0, 255, v -> house().place(0, 0, 1, v, 0, NONE) == 0);
        Bounds.due("a place's age", 0, 99, age -> house().place(0, 0, 1, 0, age, NONE) == 0);
        Bounds.due("a place's church", NONE, 3, v -> house().place(0, 0, 1, 0, 0, v) == 0);
    }

    /** "PLACINGS, up to 60"; "NONE, doing nothing: not as told, 60 are there." */
    private static void upTo60Placings() {
        ServantRegistry r = Given.onDay(Given.registry(2, 1, 2), 100);
        for (int i = 0; i < 60; i++) {
            Check.due("placings", r.count(4), i);
            Check.due("placing " + i, r.placing(i % 2, i / 30, i), i);
        }
        Check.due("placing 60", r.placing(0, 0, 100), NONE);
        Check.due("placings at last", r.count(4), 60);
        int[] last = {1, 1, 59};
        for (int what = 0; what < last.length; what++) {
            Check.due("the last one: " + what, r.placed(59, what), last[what]);
        }
        Check.due("the last one is in force", r.in(1, 100, 100), 59);
        Check.due("a 61st isn't", r.placed(60, 0), -2_000_000_000);
        Check.due("the last one is left", r.leave(59, 59, 0, 0), true);
        Check.due("the last one is undone", r.undo(59), true);
        Check.due("room isn't made by that", r.placing(0, 0, 100), NONE);
    }

    /** "a SERVANT is in a PLACE from a DAY on (up to TODAY)". */
    private static void placingUpToToday() {
        Bounds.none("a placing's servant of none", s -> Given.registry(0, 1, 1).placing(s, 0, 0) == 0);
        Bounds.none("a placing's place of none", p -> Given.registry(1, 1, 0).placing(0, p, 0) == 0);
        Bounds.due("a placing's servant", 0, 23, s -> Given.registry(24, 1, 1).placing(s, 0, 0) == 0);
        Bounds.due("a placing's place", 0, 29, p -> Given.registry(1, 1, 30).placing(0, p, 0) == 0);
        for (int today : new int[] {0, 1, 500, 999}) {
            Bounds.due("a placing's from, on day " + today, 0, today,
                    from -> Given.onDay(Given.registry(1, 1, 1), today).placing(0, 0, from) == 0);
        }
    }

    private static ServantRegistry placed(int from, int today) {
        ServantRegistry r = Given.onDay(Given.registry(1, 1, 1), today);
        r.placing(0, 0, from);
        return r;
    }

    /** "One is LEFT on a DAY (from its beginning to TODAY)". */
    private static void leftFromItsBeginningToToday() {
        int[][] spans = {{0, 0}, {0, 7}, {7, 7}, {3, 500}, {0, 999}, {999, 999}};
        for (int[] span : spans) {
            Bounds.due("left's day, begun on " + span[0] + " on day " + span[1], span[0], span[1],
                    day -> placed(span[0], span[1]).leave(0, day, 0, 0));
        }
        ServantRegistry r = placed(3, 7);
        Check.due("left tomorrow", r.leave(0, 8, 0, 0), false);
        r.day(8);
        Check.due("left on that day, today", r.leave(0, 8, 0, 0), true);
        Check.due("the day it's left", r.placed(0, 3), 8);
    }

    /** "with NOTICE of some DAYS or none, because of 0 wage, 1 work, 2 house, 3 better, 4 sick". */
    private static void noticeAndCause() {
        Bounds.none("leave's placing of none", p -> Given.registry(1, 1, 1).leave(p, 0, 0, 0));
        Bounds.due("leave's placing", 0, 0, p -> placed(0, 0).leave(p, 0, 0, 0));
        Bounds.due("notice", 0, 99, notice -> placed(0, 0).leave(0, 0, notice, 0));
        Bounds.due("cause", 0, 4, cause -> placed(0, 0).leave(0, 0, 0, cause));
        for (int cause = 0; cause <= 4; cause++) {
            ServantRegistry r = placed(0, 9);
            r.leave(0, 9, 0, cause);
            Check.due("its cause", r.placed(0, 4), cause);
        }
    }

    /** "It's LEFT: true; false, doing nothing: not as told, it is." */
    private static void leftOnce() {
        ServantRegistry r = placed(3, 20);
        Check.due("left", r.leave(0, 10, 5, 1), true);
        r.day(30);
        r.lag(0, 9);
        for (int day : new int[] {3, 9, 10, 11, 30}) {
            Check.due("left again on " + day, r.leave(0, day, 7, 2), false);
        }
        int[] due = {0, 0, 3, 10, 1, 20, 20, NONE, 0, 0, 0, -300 * 25 / 30};
        for (int what = 0; what < due.length; what++) {
            Check.due("left as it was: " + what, r.placed(0, what), due[what]);
        }
        Check.due("one is left", r.count(5), 1);
    }

    /** "UNDONE: true; false, doing nothing: none such, it is." */
    private static void undoneOnce() {
        Bounds.none("undo of none", p -> Given.registry(1, 1, 1).undo(p));
        Bounds.due("undo", 0, 0, p -> placed(0, 0).undo(p));
        ServantRegistry r = placed(3, 20);
        r.day(25);
        Check.due("undone", r.undo(0), true);
        r.day(30);
        Check.due("undone again", r.undo(0), false);
        Check.due("undone on the day it was", r.placed(0, 7), 25);
        Check.due("one is undone", r.count(6), 1);
        Check.due("known till then, still", r.in(0, 3, 24), 0);
        Check.due("not known on that day", r.in(0, 3, 25), NONE);
    }

    /** "0 TODAY ... 12 bytes on the tape. NONE for others." */
    private static void countsFrom0To12() {
        Bounds.due("count's what", 0, 12, what -> new ServantRegistry().count(what) != NONE);
        ServantRegistry r = Given.registry(24, 12, 30);
        Bounds.due("count's what of many", 0, 12, what -> r.count(what) != NONE);
    }
}
