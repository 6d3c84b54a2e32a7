/**
 * Part 3 of the document's terms (CHARACTERS, FALSE, HABIT) and promises 20 to 23: a test for each
 * sentence that names a bound of what is written.
 */
public final class CharacterBoundsTest {
    private static final int NONE = ServantRegistry.NONE;

    public static void main(String[] args) {
        upTo60Characters();
        writtenAsTold();
        writtenUpToToday();
        writtenOfNoneSuch();
        elsewhereOnADay();
        elsewhereOnItsFirstAndLastDay();
        longerThanHalfInNone();
        elsewhereAheadOfInNone();
        falseAsKnownByADay();
        falseOfNoneSuch();
        behindTheirDay();
        elsewhereAlone();
        theFirstPlacingOfAll();
        leftOrOlderThan60Days();
        stayedOfTheOneThatBeganFirst();
        habitAsKnownToday();
        habitAtLeast();
        habitIsCut();
        habitOfNone();
        habitOfNoneSuch();
        Check.end();
    }

    /** House 0 with places 0 and 1, house 1 with place 2, both in town 0; house 2 in town 1 with place 3. */
    private static ServantRegistry ready(int servants) {
        ServantRegistry r = Given.registry(servants, 2, 0);
        r.house(1);
        for (int house : new int[] {0, 0, 1, 2}) {
            r.place(house, 0, 100, 0, 0, NONE);
        }
        return r;
    }

    /** "CHARACTERS, up to 60"; "NONE, doing nothing: not as told, 60 are there." */
    private static void upTo60Characters() {
        ServantRegistry r = Given.onDay(ready(24), 60);
        for (int i = 0; i < 60; i++) {
            Check.due("characters", r.count(8), i);
            Check.due("character " + i, r.write(i % 3, i % 24, i % 10, 0, i), i);
        }
        Check.due("character 60", r.write(0, 0, 0, 0, 0), NONE);
        Check.due("characters at last", r.count(8), 60);
        int[] last = {2, 11, 9, 60};
        for (int what = 0; what < last.length; what++) {
            Check.due("the last one: " + what, r.written(59, what), last[what]);
            Check.due("a 61st: " + what, r.written(60, what), NONE);
        }
        Check.due("the last one is false", r.isFalse(59, 60), 1000);
        Check.due("a 61st isn't", r.isFalse(60, 60), NONE);
    }

    /** "a HOUSE writes of a SERVANT on TODAY: MARK 0 to 9". */
    private static void writtenAsTold() {
        Bounds.due("write's house", 0, 11, h -> Given.registry(1, 12, 0).write(h, 0, 0, 0, 0) == 0);
        Bounds.due("write's servant", 0, 23, s -> Given.registry(24, 1, 0).write(0, s, 0, 0, 0) == 0);
        Bounds.due("write's mark", 0, 9, mark -> Given.registry(1, 1, 0).write(0, 0, mark, 0, 0) == 0);
        Bounds.none("write's house of none", h -> Given.registry(1, 0, 0).write(h, 0, 0, 0, 0) == 0);
        Bounds.none("write's servant of none", s -> Given.registry(0, 1, 0).write(0, s, 0, 0, 0) == 0);
    }

    /** "from a DAY to another one in its service (up to TODAY)". */
    private static void writtenUpToToday() {
        for (int today : new int[] {0, 1, 500, 999}) {
            Bounds.due("write's from, on day " + today, 0, today,
                    from -> Given.onDay(ready(1), today).write(0, 0, 0, from, today) == 0);
            Bounds.due("write's to, on day " + today, 0, today,
                    to -> Given.onDay(ready(1), today).write(0, 0, 0, 0, to) == 0);
        }
        Bounds.due("write's to, from 7 on", 7, 20, to -> Given.onDay(ready(1), 20).write(0, 0, 0, 7, to) == 0);
        Bounds.due("write's from, to 7", 0, 7, from -> Given.onDay(ready(1), 20).write(0, 0, 0, from, 7) == 0);
    }

    /** "0 HOUSE, 1 SERVANT, 2 MARK, 3 DAY written. NONE: none such." */
    private static void writtenOfNoneSuch() {
        ServantRegistry r = ready(1);
        Bounds.none("written's character of none", c -> r.written(c, 0) != NONE);
        r.write(0, 0, 5, 0, 0);
        Bounds.due("written's character", 0, 0, c -> r.written(c, 2) == 5);
        Bounds.due("written's what", 0, 3, what -> r.written(0, what) != NONE);
    }

    /** Characters of house 0 for the days from a day to another one: is it false? */
    private static int falsehood(ServantRegistry r, int from, int to) {
        return r.isFalse(r.write(0, 0, 5, from, to), r.count(0));
    }

    /** "it's told for a DAY on which the SERVANT was IN another HOUSE's PLACE (...; the first such DAY)". */
    private static void elsewhereOnADay() {
        ServantRegistry r = Given.onDay(ready(1), 200);
        r.placing(0, 0, 0);
        r.placing(0, 2, 50);
        r.leave(1, 53, 0, 0);
        r.placing(0, 2, 60);
        r.leave(2, 61, 0, 0);
        int[][] due = {{0, 49, NONE}, {0, 50, 50}, {0, 199, 50}, {50, 50, 50}, {51, 51, 51}, {52, 52, 52},
            {52, 100, 52}, {53, 53, NONE}, {53, 59, NONE}, {53, 60, 60}, {60, 60, 60}, {61, 200, NONE},
            {49, 49, NONE}};
        for (int[] of : due) {
            Check.due("told from " + of[0] + " to " + of[1], falsehood(r, of[0], of[1]), of[2]);
        }
        Check.due("another place of that house", r.placing(0, 1, 70), 3);
        Check.due("isn't another house's", falsehood(r, 61, 200), NONE);
    }

    private static void elsewhereOnItsFirstAndLastDay() {
        ServantRegistry r = Given.onDay(ready(1), 999);
        r.placing(0, 0, 1);
        r.placing(0, 2, 999);
        r.placing(0, 2, 0);
        r.leave(2, 1, 0, 0);
        Check.due("elsewhere on day 0", falsehood(r, 0, 998), 0);
        Check.due("elsewhere on day 999", falsehood(r, 1, 999), 999);
        Check.due("neither", falsehood(r, 1, 998), NONE);
    }

    /** "or longer than half of its DAYS IN none (else)". */
    private static void longerThanHalfInNone() {
        ServantRegistry r = Given.onDay(ready(1), 100);
        r.placing(0, 0, 10);
        r.leave(0, 20, 0, 0);
        int[][] due = {{10, 19, NONE}, {10, 29, NONE}, {10, 30, 1000}, {0, 19, NONE}, {0, 20, 1000},
            {9, 10, NONE}, {8, 10, 1000}, {19, 20, NONE}, {19, 21, 1000}, {9, 9, 1000}, {10, 10, NONE},
            {19, 19, NONE}, {20, 20, 1000}, {5, 24, NONE}, {5, 25, 1000}, {4, 24, 1000}, {0, 100, 1000}};
        for (int[] of : due) {
            Check.due("in none, told from " + of[0] + " to " + of[1], falsehood(r, of[0], of[1]), of[2]);
        }
        ServantRegistry never = Given.onDay(ready(1), 999);
        Check.due("never in any", falsehood(never, 0, 999), 1000);
        Check.due("never in any, one day", falsehood(never, 999, 999), 1000);
    }

    private static void elsewhereAheadOfInNone() {
        ServantRegistry r = Given.onDay(ready(1), 100);
        r.placing(0, 2, 90);
        Check.due("ninety days in none, then elsewhere", falsehood(r, 0, 90), 90);
        Check.due("in none alone", falsehood(r, 0, 89), 1000);
    }

    private static void falseAsKnownByADay() {
        ServantRegistry r = ready(1);
        r.lag(1, 9);
        r.placing(0, 0, 0);
        r.day(40);
        r.placing(0, 3, 30);
        r.write(0, 0, 5, 0, 39);
        Check.due("the letter isn't there", r.isFalse(0, 48), NONE);
        Check.due("the letter is there", r.isFalse(0, 49), 30);
        r.day(60);
        r.undo(1);
        Check.due("the day before it's undone", r.isFalse(0, 59), 30);
        Check.due("on the day it's undone", r.isFalse(0, 60), NONE);
        r.leave(0, 19, 0, 0);
        Check.due("left, not known by 59", r.isFalse(0, 48), NONE);
        Check.due("left, known by 60", r.isFalse(0, 60), 1000);
    }

    /** "FALSE as KNOWN by a DAY ... NONE: it isn't, none such." */
    private static void falseOfNoneSuch() {
        ServantRegistry r = ready(1);
        Bounds.none("isFalse's character of none", c -> r.isFalse(c, 0) != NONE);
        r.write(0, 0, 5, 0, 0);
        Bounds.due("isFalse's character", 0, 0, c -> r.isFalse(c, 0) == 1000);
        Bounds.due("isFalse's known", 0, 999, known -> r.isFalse(0, known) == 1000);
    }

    /** One true character of servant 0 by house 0, written on day 100; rules with "habit 1". */
    private static ServantRegistry written() {
        ServantRegistry r = Given.withRules(ready(2), "habit 1;");
        r.placing(0, 0, 0);
        r.day(100);
        r.leave(0, 95, 0, 0);
        r.write(0, 0, 7, 0, 94);
        return r;
    }

    /** "behind which (on or behind their DAY) a placing of that SERVANT elsewhere began". */
    private static void behindTheirDay() {
        for (int from = 98; from <= 102; from++) {
            ServantRegistry r = Given.onDay(written(), 500);
            r.placing(0, 2, from);
            Check.due("begun on " + from, r.habit(0, 0), from >= 100 ? 1 : 0);
            Check.due("stayed from " + from, r.habit(0, 2), from >= 100 ? (500 - from) * 100 : NONE);
        }
    }

    private static void elsewhereAlone() {
        ServantRegistry r = Given.onDay(written(), 500);
        r.placing(0, 0, 200);
        r.placing(0, 1, 210);
        Check.due("in places of that house", r.habit(0, 0), 0);
        r.placing(1, 2, 220);
        Check.due("another servant elsewhere", r.habit(0, 0), 0);
        r.placing(0, 3, 230);
        Check.due("elsewhere", r.habit(0, 2), 27000);
        Check.due("that house wrote nothing", r.habit(2, 0), 0);
        r.write(0, 0, 9, 300, 300);
        Check.due("a false one more", r.habit(0, 0), 1);
        r.placing(0, 2, 500);
        r.leave(5, 500, 0, 0);
        Check.due("a false one still", r.habit(0, 0), 1);
    }

    /** A service that is told later than the placing elsewhere behind it. */
    private static void theFirstPlacingOfAll() {
        ServantRegistry r = Given.withRules(ready(1), "habit 1;");
        r.write(0, 0, 7, 0, 0);
        r.day(9);
        r.placing(0, 2, 1);
        r.leave(0, 4, 0, 0);
        Check.due("false: its service isn't told", r.habit(0, 0), 0);
        r.placing(0, 0, 0);
        r.leave(1, 1, 0, 0);
        Check.due("its service is told", r.habit(0, 0), 1);
        Check.due("stayed in the first placing of all", r.habit(0, 2), 300);
    }

    /** "that is LEFT or is older than 60 DAYS". */
    private static void leftOrOlderThan60Days() {
        ServantRegistry r = Given.onDay(written(), 110);
        r.placing(0, 2, 105);
        Check.due("5 days old", r.habit(0, 0), 0);
        r.day(164);
        Check.due("59 days old", r.habit(0, 0), 0);
        r.day(165);
        Check.due("60 days old", r.habit(0, 0), 0);
        r.day(166);
        Check.due("61 days old", r.habit(0, 0), 1);
        Check.due("61 days stayed", r.habit(0, 2), 6100);
        ServantRegistry left = Given.onDay(written(), 110);
        left.placing(0, 2, 105);
        left.leave(1, 105, 0, 0);
        Check.due("left on its first day", left.habit(0, 0), 1);
        Check.due("0 days stayed", left.habit(0, 2), 0);
        ServantRegistry today = written();
        today.placing(0, 2, 100);
        Check.due("begun on the day it was written", today.habit(0, 0), 0);
        today.leave(1, 100, 0, 0);
        Check.due("begun and left on the day it was written", today.habit(0, 0), 1);
    }

    /** "of such placings the one that began first (of one DAY the lesser number): its DAYS to LEFT or TODAY". */
    private static void stayedOfTheOneThatBeganFirst() {
        ServantRegistry r = Given.onDay(written(), 300);
        r.placing(0, 2, 290);
        r.leave(1, 299, 0, 0);
        Check.due("9 days", r.habit(0, 2), 900);
        r.placing(0, 3, 280);
        Check.due("one that began first, but neither left nor old", r.habit(0, 2), 900);
        r.placing(0, 2, 239);
        Check.due("one that is 61 days old", r.habit(0, 2), 6100);
        r.placing(0, 3, 239);
        r.leave(4, 240, 0, 0);
        Check.due("of one day the lesser number", r.habit(0, 2), 6100);
        r.undo(3);
        Check.due("of one day the greater number alone", r.habit(0, 2), 100);
        r.placing(0, 3, 238);
        r.leave(5, 300, 0, 0);
        Check.due("left today", r.habit(0, 2), 6200);
    }

    private static void habitAsKnownToday() {
        ServantRegistry r = Given.onDay(written(), 300);
        r.lag(1, 10);
        r.placing(0, 3, 150);
        r.day(309);
        Check.due("the letter isn't there", r.habit(0, 0), 0);
        r.day(310);
        Check.due("the letter is there", r.habit(0, 2), 16000);
        r.leave(1, 160, 0, 0);
        r.day(319);
        Check.due("that it's left isn't known", r.habit(0, 2), 16900);
        r.day(320);
        Check.due("that it's left is known", r.habit(0, 2), 1000);
        r.undo(1);
        Check.due("undone today", r.habit(0, 0), 0);
        r.placing(0, 2, 200);
        Check.due("another one", r.habit(0, 0), 1);
        r.placing(0, 2, 10);
        Check.due("a placing that makes it false", r.habit(0, 0), 0);
        r.undo(3);
        Check.due("put right", r.habit(0, 0), 1);
    }

    /** Characters of some servants by house 0, each of whom stayed elsewhere. */
    private static ServantRegistry manyWritten(int many, String rules) {
        ServantRegistry r = ready(many);
        for (int s = 0; s < many; s++) {
            r.placing(s, 0, 0);
            r.write(0, s, s + 1, 0, 0);
        }
        r.day(10);
        for (int s = 0; s < many; s++) {
            int placing = r.placing(s, 2, 1);
            r.leave(placing, 1 + s % 2, 0, 0);
        }
        return Given.withRules(r, rules);
    }

    /** "how many there are (at least "habit" of TODAY, else it's told nobody)". */
    private static void habitAtLeast() {
        for (int many = 0; many <= 5; many++) {
            for (int least = 0; least <= 6; least++) {
                ServantRegistry r = manyWritten(many, "habit " + least + ";");
                boolean told = many > 0 && many >= least;
                Check.due(many + ", habit " + least, r.habit(0, 0), many);
                Check.due(many + ", habit " + least + ": marks", r.habit(0, 1), told ? (many + 1) * 50 : NONE);
                Check.due(many + ", habit " + least + ": stayed", r.habit(0, 2), told ? many / 2 * 100 / many : NONE);
            }
            ServantRegistry bare = manyWritten(many, "");
            Check.due(many + ", bare", bare.habit(0, 1), many >= 3 ? (many + 1) * 50 : NONE);
        }
        ServantRegistry r = manyWritten(2, "habit 2;");
        Check.due("by today's rules: two", r.habit(0, 1), 150);
        r.day(11);
        Check.due("the next day: two", r.habit(0, 1), 150);
        Given.withRules(r, "habit 3;");
        Check.due("by later rules: too few", r.habit(0, 1), NONE);
        Check.due("by later rules: how many", r.habit(0, 0), 2);
        Given.withRules(r, "habit 9999;");
        Check.due("of 9999", r.habit(0, 2), NONE);
    }

    /** "the MARKS' sum times 100 by how many (cut), the same of STAYED". */
    private static void habitIsCut() {
        int[] marks = {9, 9, 8, 0, 0, 1};
        int[] means = {900, 900, 866, 650, 520, 450};
        ServantRegistry r = Given.withRules(ready(6), "habit 1;");
        for (int s = 0; s < 6; s++) {
            r.placing(s, 0, 0);
            r.write(0, s, marks[s], 0, 0);
        }
        r.day(100);
        int stayed = 0;
        for (int s = 0; s < 6; s++) {
            r.leave(r.placing(s, 2, 1), 1 + s * s, 0, 0);
            stayed += s * s;
            Check.due("marks of " + (s + 1), r.habit(0, 1), means[s]);
            Check.due("stayed of " + (s + 1), r.habit(0, 2), stayed * 100 / (s + 1));
        }
        ServantRegistry least = Given.withRules(ready(1), "habit 1;");
        least.placing(0, 0, 0);
        least.write(0, 0, 0, 0, 0);
        least.leave(least.placing(0, 2, 0), 0, 0, 0);
        Check.due("elsewhere on that very day, but left", least.habit(0, 0), 1);
        Check.due("the least mark", least.habit(0, 1), 0);
        Check.due("the least stay", least.habit(0, 2), 0);
    }

    private static void habitOfNone() {
        ServantRegistry r = ready(1);
        Check.due("none, bare", r.habit(0, 0), 0);
        Check.due("none, bare: marks", r.habit(0, 1), NONE);
        Given.withRules(r, "habit 0;");
        Check.due("none, habit 0", r.habit(0, 0), 0);
        Check.due("none, habit 0: no mean of marks", r.habit(0, 1), NONE);
        Check.due("none, habit 0: no mean of stayed", r.habit(0, 2), NONE);
    }

    /** "NONE: none such, told nobody (of 1, 2)." */
    private static void habitOfNoneSuch() {
        ServantRegistry r = manyWritten(3, "");
        Bounds.due("habit's house", 0, 2, h -> r.habit(h, 0) != NONE);
        Bounds.due("habit's what", 0, 2, what -> r.habit(0, what) != NONE);
        Bounds.none("habit's house of none", h -> new ServantRegistry().habit(h, 0) != NONE);
    }
}
