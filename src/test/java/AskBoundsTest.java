/**
 * Part 4 of the document's terms (ASKS, LIKE, BOXES, LEFT MORE) and promises 33 to 36: a test for each
 * sentence that names a bound.
 */
public final class AskBoundsTest {
    private static final int NONE = ServantRegistry.NONE;

    public static void main(String[] args) {
        upTo60Asks();
        asksOfNoneSuch();
        samePostAndHouse();
        asManyBits();
        agesThatDifferByAtMost5();
        agesOnItsDay();
        answeredTheOtherWay();
        unlikeChurch();
        likeOfNoneSuch();
        upTo30Boxes();
        boxesAsTold();
        boxesOnce();
        atMostBoxOfToday();
        threePlacingsAtLeast();
        withinSixtyDays();
        becauseOf0To2();
        moreThanTwice();
        hundredthsAreCut();
        leftMoreAsKnownToday();
        leftMoreOfNoneSuch();
        Check.end();
    }

    /** "ASKS, up to 60"; "NONE, doing nothing: none such, 60 are there." */
    private static void upTo60Asks() {
        ServantRegistry r = Given.registry(24, 1, 30);
        for (int i = 0; i < 60; i++) {
            Check.due("asks", r.count(9), i);
            Check.due("ask " + i, r.ask(i % 24, 0, i == 59), i);
        }
        Check.due("ask 60", r.ask(0, 0, true), NONE);
        Check.due("asks at last", r.count(9), 60);
        Check.due("the last one's first like", r.like(59, 0), 0);
        Check.due("the last one's last like", r.like(59, 58), 58);
        Check.due("no more likes", r.like(59, 59), NONE);
        Check.due("the last one is the first one's like", r.like(0, 0), 59);
        Check.due("the first one's only like", r.like(0, 1), NONE);
        Check.due("a 61st", r.like(60, 0), NONE);
    }

    private static void asksOfNoneSuch() {
        Bounds.due("ask's servant", 0, 23, s -> Given.registry(24, 1, 1).ask(s, 0, true) == 0);
        Bounds.due("ask's place", 0, 29, p -> Given.registry(1, 1, 30).ask(0, p, false) == 0);
        Bounds.none("ask's servant of none", s -> Given.registry(0, 1, 1).ask(s, 0, true) != NONE);
        Bounds.none("ask's place of none", p -> Given.registry(1, 1, 0).ask(0, p, true) != NONE);
    }

    /** "another ASK for a PLACE of the same POST and HOUSE". */
    private static void samePostAndHouse() {
        ServantRegistry r = Given.registry(1, 2, 0);
        for (int post = 0; post < 6; post++) {
            for (int house = 0; house < 2; house++) {
                r.place(house, post, 1 + post, 0, 0, NONE);
            }
        }
        int same = r.place(1, 5, 999, 255, 99, 3);
        r.ask(0, same, true);
        for (int p = 0; p < 12; p++) {
            r.ask(0, p, false);
        }
        Check.due("of the last post and house", r.like(0, 0), 12);
        Check.due("of no other one", r.like(0, 1), NONE);
        Check.due("the other way round", r.like(12, 0), 0);
        Check.due("another house", r.like(11, 0), NONE);
    }

    /** "of a SERVANT of as many SKILLS' bits". */
    private static void asManyBits() {
        int[] skills = {0, 1, 128, 3, 192, 127, 254, 255};
        int[] bits = {0, 1, 1, 2, 2, 7, 7, 8};
        for (int i = 0; i < skills.length; i++) {
            for (int j = 0; j < skills.length; j++) {
                ServantRegistry r = Given.registry(0, 1, 1);
                r.servant(-9000, skills[i], 0, 0);
                r.servant(-9000, skills[j], 0, 0);
                r.ask(0, 0, true);
                r.ask(1, 0, false);
                Check.due("bits of " + skills[i] + " and " + skills[j], r.like(0, 0), bits[i] == bits[j] ? 1 : NONE);
            }
        }
    }

    private static int likeOfAges(int born, int otherBorn) {
        ServantRegistry r = Given.registry(0, 1, 1);
        r.servant(born, 0, 0, 0);
        r.servant(otherBorn, 0, 0, 0);
        r.ask(0, 0, true);
        r.ask(1, 0, false);
        int like = r.like(0, 0);
        Check.due("alike the other way round", r.like(1, 0) == 0, like == 1);
        return like;
    }

    /** "an AGE (on its DAY) that differs by at most 5". */
    private static void agesThatDifferByAtMost5() {
        for (int apart = -8; apart <= 8; apart++) {
            int due = Math.abs(apart) <= 5 ? 1 : NONE;
            Check.due(apart + " years apart", likeOfAges(-20 * 365, -(20 + apart) * 365), due);
        }
        Check.due("almost six years apart, 5 by age", likeOfAges(-20 * 365, -26 * 365 + 1), 1);
        Check.due("six by age, not much over five years apart", likeOfAges(-21 * 365 + 1, -26 * 365), NONE);
        Check.due("age 0 and 5", likeOfAges(0, -5 * 365), 1);
        Check.due("age 0 and 6", likeOfAges(0, -6 * 365), NONE);
        Check.due("age 0 and 54", likeOfAges(0, -20_000), NONE);
    }

    private static void agesOnItsDay() {
        ServantRegistry r = Given.registry(0, 1, 1);
        r.servant(-20 * 365, 0, 0, 0);
        r.servant(-15 * 365 + 1, 0, 0, 0);
        r.servant(-26 * 365 + 1, 0, 0, 0);
        r.ask(0, 0, true);
        r.ask(1, 0, false);
        r.ask(2, 0, false);
        r.day(1);
        Check.due("14 on its day isn't like 20, 25 is", r.like(0, 0), 2);
        Check.due("no more, a day later", r.like(0, 1), NONE);
        r.ask(1, 0, false);
        r.ask(2, 0, false);
        Check.due("15 on its day is like 20", r.like(0, 1), 3);
        Check.due("26 on its day isn't", r.like(0, 2), NONE);
        r.day(365);
        Check.due("ages as they were", r.like(0, 1), 3);
        r.ask(0, 0, true);
        Check.due("21 on its day: 26 is like it", r.like(5, 0), 2);
        Check.due("21 on its day: 26 too", r.like(5, 1), 4);
        Check.due("21 on its day: 15 isn't", r.like(5, 2), NONE);
    }

    /** "that was answered the other way". */
    private static void answeredTheOtherWay() {
        ServantRegistry r = Given.registry(1, 1, 1);
        r.ask(0, 0, true);
        Check.due("alone", r.like(0, 0), NONE);
        r.ask(0, 0, true);
        Check.due("both yes", r.like(0, 0), NONE);
        r.ask(0, 0, false);
        Check.due("yes and no", r.like(0, 0), 2);
        Check.due("no and yes", r.like(2, 0), 0);
        Check.due("no and yes again", r.like(2, 1), 1);
        r.ask(0, 0, false);
        Check.due("both no", r.like(3, 2), NONE);
        Check.due("the later no", r.like(1, 1), 3);
    }

    /** "UNLIKE CHURCH: of those the first by a SERVANT of another CHURCH." */
    private static void unlikeChurch() {
        for (int of = 0; of <= 3; of++) {
            ServantRegistry r = Given.registry(0, 1, 1);
            for (int church = 0; church <= 3; church++) {
                r.servant(-9000, 0, church, 0);
            }
            r.ask(of, 0, true);
            r.ask(of, 0, false);
            Check.due("its own church alone", r.like(0, NONE), NONE);
            Check.due("its own church is like", r.like(0, 0), 1);
            for (int church = 0; church <= 3; church++) {
                r.ask(church, 0, false);
            }
            Check.due("the first of another church", r.like(0, NONE), of == 0 ? 3 : 2);
            Check.due("the other way round: none", r.like(1, NONE), NONE);
            Check.due("of another church, the other way round", r.like(of == 0 ? 3 : 2, NONE), 0);
        }
        ServantRegistry r = Given.registry(0, 1, 1);
        r.servant(-9000, 0, 0, 0);
        r.servant(-9000, 1, 1, 0);
        r.ask(0, 0, true);
        r.ask(1, 0, false);
        Check.due("of another church, but not like", r.like(0, NONE), NONE);
    }

    /** "The k-th LIKE of an ASK (k 0 on), or UNLIKE CHURCH (k NONE). NONE: none, none such." */
    private static void likeOfNoneSuch() {
        ServantRegistry r = Given.registry(0, 1, 1);
        r.servant(-9000, 0, 0, 0);
        r.servant(-9000, 0, 1, 0);
        Bounds.none("like's ask of none", ask -> r.like(ask, 0) != NONE);
        r.ask(0, 0, true);
        r.ask(1, 0, false);
        r.ask(1, 0, false);
        Bounds.due("like's ask", 0, 2, ask -> r.like(ask, 0) != NONE);
        Bounds.due("like's k", NONE, 1, k -> r.like(0, k) != NONE);
        Bounds.due("unlike church's ask", 0, 2, ask -> r.like(ask, NONE) != NONE);
    }

    private static ServantRegistry withPlacings(int many, String rules) {
        ServantRegistry r = Given.withRules(Given.registry(1, 1, 1), rules);
        for (int i = 0; i < many; i++) {
            r.placing(0, 0, 0);
        }
        return r;
    }

    /** "BOXES, up to 30"; "NONE, doing nothing: not as told, one of that placing was told, 30 are." */
    private static void upTo30Boxes() {
        ServantRegistry r = withPlacings(60, "box 9999;");
        for (int i = 0; i < 30; i++) {
            Check.due("boxes", r.count(10), i);
            Check.due("box " + i, r.box(59 - i, 9999), 9999);
            Check.due("all paid", r.count(11), (i + 1) * 9999);
        }
        Check.due("box 30", r.box(0, 1), NONE);
        Check.due("boxes at last", r.count(10), 30);
        Check.due("all paid at last", r.count(11), 299_970);
        Check.due("one of that placing was told", r.box(59, 1), NONE);
    }

    /** "lost on a SERVANT's way into a placing, told to be worth 1 to 9,999". */
    private static void boxesAsTold() {
        Bounds.due("box's placing", 0, 59, p -> withPlacings(60, "box 5;").box(p, 7) == 5);
        Bounds.due("box's worth", 1, 9999, worth -> withPlacings(1, "").box(0, worth) == 0);
        Bounds.none("box's placing of none", p -> withPlacings(0, "").box(p, 1) != NONE);
    }

    /** "PAID once". */
    private static void boxesOnce() {
        ServantRegistry r = withPlacings(2, "box 5;");
        Check.due("a worth of 0", r.box(0, 0), NONE);
        Check.due("a worth of 10000", r.box(0, 10_000), NONE);
        Check.due("refused ones aren't told", r.box(0, 3), 3);
        Check.due("told again", r.box(0, 3), NONE);
        Check.due("another placing", r.box(1, 9), 5);
        Check.due("two boxes", r.count(10), 2);
        Check.due("all paid", r.count(11), 8);
        ServantRegistry bare = withPlacings(1, "");
        Check.due("nothing is paid", bare.box(0, 9), 0);
        Check.due("but it's told", bare.box(0, 9), NONE);
        Check.due("one box", bare.count(10), 1);
        Given.withRules(bare, "box 5;");
        Check.due("and isn't paid later", bare.box(0, 9), NONE);
        Check.due("nothing at all", bare.count(11), 0);
    }

    /** "at most "box" of TODAY". */
    private static void atMostBoxOfToday() {
        int[][] due = {{0, 1, 0}, {1, 1, 1}, {1, 2, 1}, {70, 69, 69}, {70, 70, 70}, {70, 71, 70},
            {9999, 9998, 9998}, {9999, 9999, 9999}};
        for (int[] of : due) {
            Check.due("box " + of[0] + ", worth " + of[1],
                    withPlacings(1, "box " + of[0] + ";").box(0, of[1]), of[2]);
        }
        ServantRegistry r = withPlacings(3, "box 5;");
        r.day(9);
        Check.due("the rules of before still hold", r.box(0, 99), 5);
        r.day(10);
        Given.withRules(r, "box 7;");
        Check.due("today's, not those of its beginning", r.box(1, 99), 7);
        Given.withRules(r, "notice 1;");
        Check.due("taken last today", r.box(2, 99), 0);
    }

    /** House 0 and house 1 with a place each in town 0, house 2 with one in town 1; day 500. */
    private static ServantRegistry houses() {
        ServantRegistry r = Given.registry(1, 2, 2);
        r.house(1);
        r.place(2, 0, 1, 0, 0, NONE);
        r.day(500);
        return r;
    }

    private static void placings(ServantRegistry r, int house, int many, int left, int cause) {
        for (int i = 0; i < many; i++) {
            int placing = r.placing(0, house, 100);
            if (left != NONE) {
                r.leave(placing, left, 0, cause);
            }
        }
    }

    /** "a HOUSE that had 3 placings at least". */
    private static void threePlacingsAtLeast() {
        for (int many = 0; many <= 4; many++) {
            ServantRegistry r = houses();
            placings(r, 0, many, 110, 0);
            placings(r, 1, 20, NONE, 0);
            Check.due(many + " placings", r.leftMore(0), many >= 3 ? 1 : 0);
        }
        ServantRegistry none = houses();
        for (int house = 0; house < 3; house++) {
            Check.due("no placings at all", none.leftMore(house), 0);
        }
    }

    /** "LEFT within 60 DAYS". */
    private static void withinSixtyDays() {
        int[][] due = {{100, 1}, {159, 1}, {160, 1}, {161, 0}, {500, 0}};
        for (int[] of : due) {
            ServantRegistry r = houses();
            placings(r, 0, 3, of[0], 0);
            placings(r, 1, 20, NONE, 0);
            Check.due("left on " + of[0], r.leftMore(0), of[1]);
        }
    }

    /** "because of 0 to 2". */
    private static void becauseOf0To2() {
        for (int cause = 0; cause <= 4; cause++) {
            ServantRegistry r = houses();
            placings(r, 0, 3, 110, cause);
            placings(r, 1, 20, NONE, 0);
            Check.due("because of " + cause, r.leftMore(0), cause <= 2 ? 1 : 0);
            ServantRegistry all = houses();
            placings(all, 0, 3, 110, 0);
            placings(all, 1, 3, 110, cause);
            placings(all, 1, 1, NONE, 0);
            Check.due("of all because of " + cause, all.leftMore(0), cause <= 2 ? 0 : 1);
        }
    }

    /** "are more than twice that of all". */
    private static void moreThanTwice() {
        ServantRegistry r = houses();
        placings(r, 0, 4, 110, 0);
        placings(r, 1, 4, NONE, 0);
        Check.due("100 against twice 50", r.leftMore(0), 0);
        placings(r, 1, 1, NONE, 0);
        Check.due("100 against twice 44", r.leftMore(0), 1);
        ServantRegistry alone = houses();
        placings(alone, 0, 5, 110, 0);
        Check.due("the only house, 100 against twice 100", alone.leftMore(0), 0);
        ServantRegistry zero = houses();
        placings(zero, 0, 5, NONE, 0);
        Check.due("0 against twice 0", zero.leftMore(0), 0);
        ServantRegistry full = houses();
        placings(full, 0, 1, 110, 0);
        placings(full, 0, 2, NONE, 0);
        placings(full, 1, 57, NONE, 0);
        Check.due("33 against twice 1, sixty placings", full.leftMore(0), 1);
        Check.due("0 against twice 1", full.leftMore(1), 0);
    }

    /** "hundredths (cut)". */
    private static void hundredthsAreCut() {
        ServantRegistry r = houses();
        placings(r, 0, 2, 110, 0);
        placings(r, 0, 1, NONE, 0);
        placings(r, 1, 3, NONE, 0);
        Check.due("66 against twice 33, uncut 66.6 against 66.6", r.leftMore(0), 0);
        ServantRegistry all = houses();
        placings(all, 0, 2, 110, 0);
        placings(all, 0, 1, NONE, 0);
        placings(all, 1, 1, 110, 0);
        placings(all, 1, 5, NONE, 0);
        Check.due("66 against twice 33, of nine", all.leftMore(0), 0);
        ServantRegistry cut = houses();
        placings(cut, 0, 3, 110, 0);
        placings(cut, 0, 1, NONE, 0);
        placings(cut, 1, 4, NONE, 0);
        Check.due("75 against twice 37, uncut twice 37.5", cut.leftMore(0), 1);
        ServantRegistry few = houses();
        placings(few, 0, 2, 110, 0);
        placings(few, 0, 3, NONE, 0);
        placings(few, 1, 54, NONE, 0);
        Check.due("40 against twice 3", few.leftMore(0), 1);
    }

    /** "(as KNOWN TODAY)". */
    private static void leftMoreAsKnownToday() {
        ServantRegistry r = houses();
        r.lag(1, 8);
        placings(r, 2, 3, NONE, 0);
        placings(r, 1, 20, NONE, 0);
        r.day(507);
        for (int i = 0; i < 3; i++) {
            r.lag(1, 3);
            r.leave(i, 110, 0, 0);
        }
        Check.due("neither is known", r.leftMore(2), 0);
        r.day(508);
        Check.due("the placings are known", r.leftMore(2), 0);
        r.day(509);
        Check.due("a day before the letters", r.leftMore(2), 0);
        r.day(510);
        Check.due("the letters are there", r.leftMore(2), 1);
        r.undo(1);
        Check.due("one is undone today", r.leftMore(2), 0);
    }

    /** "LEFT MORE: 1, 0. NONE: none such." */
    private static void leftMoreOfNoneSuch() {
        ServantRegistry r = Given.registry(0, 12, 0);
        Bounds.due("leftMore's house", 0, 11, h -> r.leftMore(h) == 0);
        Bounds.none("leftMore's house of none", h -> new ServantRegistry().leftMore(h) != NONE);
    }
}
