/**
 * Part 2 of the document's terms (what rules tell, FIT) and promises 18 and 19: a test for each
 * sentence that names a bound of the rules of a day.
 */
public final class LawBoundsTest {
    private static final int NONE = ServantRegistry.NONE;
    private static final String[] POSTS = {"kitchen", "house", "nurse", "cook", "coach", "butler"};

    public static void main(String[] args) {
        inForceFromTodayOn();
        takenLastByADay();
        bareWithoutRules();
        withoutAStatement();
        theLastOneHolds();
        theFirstWhoseAnyHolds();
        leastOfItsPostAlone();
        comparisonsAtTheirNumber();
        comparisonsOfNothing();
        whatIsAsked();
        skillsAreHowManyBits();
        lawOfNoneSuch();
        fitByItsFirstReason();
        skillsWanted();
        belowTheAge();
        anotherChurch();
        wageBelowLeast();
        fitByTheRulesOfItsDay();
        fitOfNoneSuch();
        Check.end();
    }

    /** "they're in force from TODAY on". */
    private static void inForceFromTodayOn() {
        for (int day : new int[] {0, 1, 500, 999}) {
            ServantRegistry r = Given.withRules(Given.onDay(day), "box 5;");
            Check.due("on the first day, taken on " + day, r.law(0, 3), day == 0 ? 5 : 0);
            Check.due("the day before, taken on " + day, r.law(Math.max(0, day - 1), 3), day == 0 ? 5 : 0);
            Check.due("on that day, taken on " + day, r.law(day, 3), 5);
            Check.due("on the last day, taken on " + day, r.law(999, 3), 5);
        }
    }

    /** "of a DAY those taken last by it". */
    private static void takenLastByADay() {
        ServantRegistry r = new ServantRegistry();
        int[] days = {0, 0, 10, 10, 10, 11, 999, 999};
        for (int i = 0; i < days.length; i++) {
            Given.onDay(r, days[i]);
            Check.due("rules " + i, Check.rules(r, "box " + (i + 1) + ";"), i);
            Check.due("on their day", r.law(days[i], 7), i);
            Check.due("on the last day", r.law(999, 3), i + 1);
        }
        int[][] due = {{0, 1}, {9, 1}, {10, 4}, {11, 5}, {12, 5}, {998, 5}, {999, 7}};
        for (int[] of : due) {
            Check.due("number on " + of[0], r.law(of[0], 7), of[1]);
            Check.due("box on " + of[0], r.law(of[0], 3), of[1] + 1);
        }
    }

    /** "none: bare"; "(without: NOTICE 30, BACK 0 within 0, BOX 0, HABIT 3, AGE 0)". */
    private static void bareWithoutRules() {
        int[] bare = {30, 0, 0, 0, 3, 0, 0, NONE, NONE, NONE, 0, 0, 0, 0, 0, 0};
        ServantRegistry none = new ServantRegistry();
        ServantRegistry later = Given.withRules(Given.onDay(500),
                "notice 1;back 2 within 3;box 4;habit 5;bar church;age kitchen 6;age butler 7;");
        ServantRegistry empty = Given.withRules(new ServantRegistry(), "");
        ServantRegistry broken = new ServantRegistry();
        Check.rules(broken, "notice 1;back 2 within 3;box 4;habit 5;bar church;age kitchen 6;x");
        for (int what = 0; what < bare.length; what++) {
            Check.due("bare: " + what, none.law(0, what), bare[what]);
            Check.due("bare on the last day: " + what, none.law(999, what), bare[what]);
            Check.due("bare the day before: " + what, later.law(499, what), bare[what]);
            Check.due("an empty text: " + what, empty.law(0, what), what == 7 ? 0 : bare[what]);
            Check.due("a text with a fault: " + what, broken.law(0, what), bare[what]);
        }
    }

    private static void withoutAStatement() {
        String[] texts = {"notice 7;", "back 7 within 8;", "box 7;", "habit 7;", "bar church;",
            "age kitchen 7;", "age house 7;", "age nurse 7;", "age cook 7;", "age coach 7;", "age butler 7;",
            "fee house 7 7;", "least cook 7;", "step cook coach after 7;"};
        int[] tells = {0, 1, 3, 4, 5, 10, 11, 12, 13, 14, 15, NONE, NONE, NONE};
        int[] bare = {30, 0, 0, 0, 3, 0, 1, 1, NONE, NONE, 0, 0, 0, 0, 0, 0};
        for (int i = 0; i < texts.length; i++) {
            ServantRegistry r = Given.withRules(new ServantRegistry(),
                    "notice 9;back 9 within 9;box 9;habit 9;bar church;age kitchen 9;age house 9;"
                    + "age nurse 9;age cook 9;age coach 9;age butler 9;");
            Given.withRules(r, texts[i]);
            for (int what = 0; what < bare.length; what++) {
                int due = what == tells[i] ? (what == 5 ? 1 : 7) : bare[what];
                Check.due(texts[i] + " " + what, r.law(0, what), what == 2 && i == 1 ? 8 : due);
            }
        }
    }

    /** "The last "notice", "back", "box", "habit" and "age" of a POST holds". */
    private static void theLastOneHolds() {
        ServantRegistry r = Given.withRules(new ServantRegistry(),
                "notice 9999;notice 0;back 100 within 9999;back 0 within 0;box 9999;box 0;habit 9999;habit 0;"
                + "age cook 9999;age cook 0;age coach 0;age coach 9999;");
        int[] due = {0, 0, 0, 0, 0, 0, 12, 0};
        for (int what = 0; what < due.length; what++) {
            Check.due("the least last: " + what, r.law(0, what), due[what]);
        }
        Check.due("cook", r.law(0, 13), 0);
        Check.due("coach", r.law(0, 14), 9999);
        ServantRegistry q = Given.withRules(new ServantRegistry(),
                "notice 0;notice 9999;back 0 within 0;back 100 within 9999;box 0;box 9999;habit 0;habit 9999;"
                + "bar church;bar church;");
        int[] greatest = {9999, 100, 9999, 9999, 9999, 1, 10, 0};
        for (int what = 0; what < greatest.length; what++) {
            Check.due("the greatest last: " + what, q.law(0, what), greatest[what]);
        }
    }

    private static ServantRegistry placing(String rules) {
        ServantRegistry r = Given.withRules(Given.registry(1, 1, 6), rules);
        for (int p = 0; p < 6; p++) {
            r.placing(0, p, 0);
        }
        return r;
    }

    /** "the first "fee" of each and "least" of a POST whose ANY holds (or that has none; else 0)". */
    private static void theFirstWhoseAnyHolds() {
        ServantRegistry r = placing("fee house 1 0 if post=1;fee servant 2 0 if post=2;fee house 3 0 if post<3;"
                + "fee servant 4 0;fee house 5 0 if post=0 or post=4;fee servant 6 0;fee servant 7 0 if post=5;");
        int[] house = {3, 1, 3, 0, 5, 0};
        int[] servant = {4, 4, 2, 4, 4, 4};
        for (int p = 0; p < 6; p++) {
            Check.due("house's fee of post " + p, r.placed(p, 8), house[p]);
            Check.due("servant's fee of post " + p, r.placed(p, 9), servant[p]);
        }
        ServantRegistry none = placing("fee servant 7 7;");
        Check.due("no fee of a house", none.placed(0, 8), 0);
        ServantRegistry least = placing("least cook 999 if town=1;least cook 301 if wage=300;least cook 1;"
                + "least coach 1;least coach 999;least nurse 999 if wage>300;");
        int[] fits = {0, 0, 0, 4, 0, 0};
        for (int p = 0; p < 6; p++) {
            Check.due("least of post " + p, least.fit(0, p, 0), fits[p]);
        }
    }

    private static void leastOfItsPostAlone() {
        for (int post = 0; post < 6; post++) {
            ServantRegistry r = placing("least " + POSTS[post] + " 301;");
            ServantRegistry q = placing("age " + POSTS[post] + " 99;");
            for (int p = 0; p < 6; p++) {
                Check.due("least " + POSTS[post] + " of " + p, r.fit(0, p, 0), p == post ? 4 : 0);
                Check.due("age " + POSTS[post] + " of " + p, q.fit(0, p, 0), p == post ? 2 : 0);
            }
        }
    }

    /** A servant of 20 years and 3 skills, a place of wage 100, post 3, town 2, on day 40. */
    private static boolean holds(String condition) {
        ServantRegistry r = new ServantRegistry();
        r.servant(-20 * 365, 11, 0, 4);
        r.house(2);
        r.place(0, 3, 100, 1, 5, NONE);
        Given.withRules(r, "least cook 101 if " + condition + ";");
        return r.fit(0, 0, 40) == 4;
    }

    /** "WORD ("<" | ">" | "=") NUMBER", a number less, at it, a number more. */
    private static void comparisonsAtTheirNumber() {
        String[] words = {"wage", "post", "town", "age", "skills", "day"};
        int[] facts = {100, 3, 2, 20, 3, 40};
        for (int i = 0; i < words.length; i++) {
            for (int apart = -1; apart <= 1; apart++) {
                int number = facts[i] + apart;
                Check.due(words[i] + "<" + number, holds(words[i] + "<" + number), apart > 0);
                Check.due(words[i] + ">" + number, holds(words[i] + ">" + number), apart < 0);
                Check.due(words[i] + "=" + number, holds(words[i] + "=" + number), apart == 0);
            }
            Check.due(words[i] + "<0", holds(words[i] + "<0"), false);
            Check.due(words[i] + ">0", holds(words[i] + ">0"), true);
            Check.due(words[i] + "<9999", holds(words[i] + "<9999"), true);
            Check.due(words[i] + ">9999", holds(words[i] + ">9999"), false);
        }
    }

    /** A servant of 0 years without skills, a place of wage 1, post 0, town 0, on day 0. */
    private static void comparisonsOfNothing() {
        for (String word : new String[] {"post", "town", "age", "skills", "day"}) {
            String[] hold = {"=0", "<1", "<9999", "=0000"};
            String[] fail = {"<0", ">0", "=1", ">9999", "=9999"};
            for (String than : hold) {
                Check.due(word + than, leastHolds(word + than), true);
                Check.due("not " + word + than, leastHolds("not " + word + than), false);
            }
            for (String than : fail) {
                Check.due(word + than, leastHolds(word + than), false);
                Check.due("not " + word + than, leastHolds("not " + word + than), true);
            }
        }
    }

    private static boolean leastHolds(String condition) {
        ServantRegistry r = Given.registry(0, 1, 0);
        r.servant(0, 0, 0, 0);
        r.place(0, 0, 1, 0, 0, NONE);
        Given.withRules(r, "least kitchen 2 if " + condition + ";");
        return r.fit(0, 0, 0) == 4;
    }

    /** "Asked of a PLACE and a SERVANT: wage, post, town (of the HOUSE), age (on that DAY), ... day". */
    private static void whatIsAsked() {
        ServantRegistry r = new ServantRegistry();
        r.servant(0, 0, 0, 3);
        r.house(4);
        r.place(0, 5, 999, 255, 0, NONE);
        Given.withRules(r, "fee house 1 0 if day=999;fee house 2 0 if day=0;fee servant 3 0 if age=2;"
                + "fee servant 4 0 if age=0 and town=4 and post=5 and wage=999 and skills=0;");
        r.placing(0, 0, 0);
        r.day(999);
        r.placing(0, 0, 999);
        r.placing(0, 0, 364);
        Check.due("on day 0", r.placed(0, 8), 2);
        Check.due("of age 0", r.placed(0, 9), 4);
        Check.due("on day 999", r.placed(1, 8), 1);
        Check.due("of age 2", r.placed(1, 9), 3);
        Check.due("of age 0 still", r.placed(2, 9), 4);
        ServantRegistry least = new ServantRegistry();
        least.servant(-9000, 0, 0, 3);
        least.house(0);
        least.place(0, 0, 1, 0, 0, NONE);
        Given.withRules(least, "least kitchen 2 if wage=1 and post=0 and town=0 and skills=0 and day=0;");
        Check.due("the least of all", least.fit(0, 0, 0), 4);
        Check.due("a day later", least.fit(0, 0, 1), 0);
    }

    /** "skills (how many bits)". */
    private static void skillsAreHowManyBits() {
        int[] skills = {0, 1, 128, 129, 7, 224, 85, 170, 127, 254, 255};
        int[] bits = {0, 1, 1, 2, 3, 3, 4, 4, 7, 7, 8};
        for (int i = 0; i < skills.length; i++) {
            ServantRegistry r = Given.registry(0, 1, 1);
            r.servant(-9000, skills[i], 0, 0);
            Given.withRules(r, "least kitchen 999 if skills=" + bits[i] + ";");
            Check.due("bits of " + skills[i], r.fit(0, 0, 0), 4);
        }
    }

    /** "10 + p AGE of a POST. NONE: none such." */
    private static void lawOfNoneSuch() {
        ServantRegistry r = Given.withRules(new ServantRegistry(), "box 1;");
        Bounds.due("law's day", 0, 999, day -> r.law(day, 3) == 1);
        Bounds.due("bare law's day", 0, 999, day -> new ServantRegistry().law(day, 0) == 30);
        Bounds.due("law's what", 0, 7, what -> r.law(0, what) != NONE);
        Bounds.due("law's age of a post", 10, 15, what -> r.law(0, what) != NONE);
    }

    /** "FIT ... 0; else the first: 1 ... 2 ... 3 ... 4". */
    private static void fitByItsFirstReason() {
        for (int mask = 0; mask < 16; mask++) {
            ServantRegistry r = new ServantRegistry();
            r.servant(-20 * 365, 1, 1, 0);
            r.house(0);
            r.place(0, 2, (mask & 8) != 0 ? 99 : 100, (mask & 1) != 0 ? 2 : 1, (mask & 2) != 0 ? 21 : 20,
                    (mask & 4) != 0 ? 2 : 1);
            Given.withRules(r, "least nurse 100;");
            int due = (mask & 1) != 0 ? 1 : (mask & 2) != 0 ? 2 : (mask & 4) != 0 ? 3 : mask != 0 ? 4 : 0;
            Check.due("reasons " + mask, r.fit(0, 0, 0), due);
        }
    }

    /** "1 SKILLS wanted are lacking". */
    private static void skillsWanted() {
        int[][] pairs = {{0, 0, 0}, {255, 0, 0}, {255, 255, 0}, {0, 255, 1}, {127, 128, 1}, {128, 128, 0},
            {254, 255, 1}, {6, 2, 0}, {6, 3, 1}, {6, 6, 0}, {6, 7, 1}, {2, 6, 1}};
        for (int[] pair : pairs) {
            ServantRegistry r = new ServantRegistry();
            r.servant(-9000, pair[0], 0, 0);
            r.house(0);
            r.place(0, 0, 1, pair[1], 0, NONE);
            Check.due("has " + pair[0] + ", wanted " + pair[1], r.fit(0, 0, 0), pair[2]);
        }
    }

    /** "2 below the PLACE's AGE, or the POST's". */
    private static void belowTheAge() {
        for (int placeAge = 19; placeAge <= 21; placeAge++) {
            for (int postAge = 19; postAge <= 21; postAge++) {
                ServantRegistry r = new ServantRegistry();
                r.servant(-20 * 365, 0, 0, 0);
                r.house(0);
                r.place(0, 4, 1, 0, placeAge, NONE);
                Given.withRules(r, "age coach " + postAge + ";");
                int due = placeAge > 20 || postAge > 20 ? 2 : 0;
                Check.due("20 of " + placeAge + " and " + postAge, r.fit(0, 0, 0), due);
                Check.due("a year later", r.fit(0, 0, 365), 0);
            }
        }
        ServantRegistry r = Given.registry(1, 1, 1);
        Given.withRules(r, "age kitchen 9999;");
        Check.due("a post's age of 9999", r.fit(0, 0, 999), 2);
        r.place(0, 1, 1, 0, 99, NONE);
        Check.due("a place's age of 99", r.fit(0, 1, 999), 2);
    }

    /** "3 the CHURCH asked for is another one, and no "bar church" holds". */
    private static void anotherChurch() {
        for (int of = 0; of <= 3; of++) {
            for (int asked = NONE; asked <= 3; asked++) {
                ServantRegistry r = new ServantRegistry();
                r.servant(-9000, 0, of, 0);
                r.house(0);
                r.place(0, 0, 1, 0, 0, asked);
                int due = asked == NONE || asked == of ? 0 : 3;
                Check.due("church " + of + ", asked for " + asked, r.fit(0, 0, 0), due);
                Given.withRules(r, "box 1;");
                Check.due("with rules without a bar", r.fit(0, 0, 0), due);
                Given.withRules(r, "bar church;");
                Check.due("barred", r.fit(0, 0, 0), 0);
            }
        }
    }

    /** "4 the WAGE is below "least"". */
    private static void wageBelowLeast() {
        int[][] wages = {{1, 0, 0}, {1, 1, 0}, {1, 2, 4}, {100, 99, 0}, {100, 100, 0}, {100, 101, 4},
            {999, 999, 0}, {999, 1000, 4}, {999, 9999, 4}};
        for (int[] of : wages) {
            ServantRegistry r = Given.registry(1, 1, 0);
            r.place(0, 5, of[0], 0, 0, NONE);
            Given.withRules(r, "least butler " + of[1] + ";");
            Check.due("wage " + of[0] + ", least " + of[1], r.fit(0, 0, 0), of[2]);
        }
    }

    /** "FIT of a SERVANT for a PLACE on a DAY by the rules of it". */
    private static void fitByTheRulesOfItsDay() {
        ServantRegistry r = Given.registry(1, 1, 1);
        r.day(100);
        Given.withRules(r, "least kitchen 301;");
        r.day(200);
        Given.withRules(r, "age kitchen 99;");
        int[][] due = {{0, 0}, {99, 0}, {100, 4}, {199, 4}, {200, 2}, {999, 2}};
        for (int[] of : due) {
            Check.due("fit on " + of[0], r.fit(0, 0, of[0]), of[1]);
        }
    }

    /** "FIT on a DAY: 0 to 4. NONE: none such." */
    private static void fitOfNoneSuch() {
        ServantRegistry r = Given.registry(24, 1, 30);
        Bounds.due("fit's servant", 0, 23, s -> r.fit(s, 0, 0) == 0);
        Bounds.due("fit's place", 0, 29, p -> r.fit(0, p, 0) == 0);
        Bounds.due("fit's day", 0, 999, day -> r.fit(0, 0, day) == 0);
        Bounds.none("fit's servant of none", s -> Given.registry(0, 1, 1).fit(s, 0, 0) != NONE);
        Bounds.none("fit's place of none", p -> Given.registry(1, 1, 0).fit(0, p, 0) != NONE);
    }
}
