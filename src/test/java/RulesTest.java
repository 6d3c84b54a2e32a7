/** Promises 15 to 19: the tape, texts of rules and their faults, and what the rules of a day tell. */
public final class RulesTest {
    private static final int NONE = ServantRegistry.NONE;

    public static void main(String[] args) {
        tape();
        taking();
        cutTexts();
        faults();
        faultsOfNumbers();
        faultsOfOpen();
        faultOfManyStatements();
        laws();
        lawsByDays();
        fits();
        conditions();
        Check.end();
    }

    private static void tape() {
        ServantRegistry r = new ServantRegistry();
        for (int i = 1; i <= 35; i++) {
            Check.due("feed " + i, r.feed(-1, i, 0, 0, 0), 20 * i);
        }
        Check.due("more than 700", r.feed(0, 0, 0, 0, 0), NONE);
        Check.due("700 are there", r.count(12), 700);
        Check.due("rules(701)", r.rules(701), -2);
        Check.due("rules(-1)", r.rules(-1), -2);
        Check.due("700 are still there", r.count(12), 700);
        Check.due("a text of strange bytes", r.rules(700), NONE);
        Check.due("its fault", r.fault(), 0);
        Check.due("the tape is empty", r.count(12), 0);
        Check.due("feed", r.feed(0x626f7820, 0x373b6e6f, 0x7469636f, 0, 0), 20);
        Check.due("the highest byte first", r.rules(6), 0);
        Check.due("box 7", r.law(0, 3), 7);
        Check.due("the rest is gone", r.count(12), 0);
    }

    private static void taking() {
        ServantRegistry r = new ServantRegistry();
        Check.due("an empty text", r.rules(0), 0);
        Check.due("it has no fault", r.fault(), NONE);
        Check.due("it has no statements", r.law(0, 6), 0);
        Check.due("it is taken", r.law(0, 7), 0);
        Check.due("a fault", Check.rules(r, "box 1; fie"), NONE);
        Check.due("its place", r.fault(), 7);
        Check.due("it isn't taken", r.law(0, 7), 0);
        Check.due("one is taken", r.count(7), 1);
        Check.due("rules(1) of none", r.rules(1), -2);
        Check.due("the fault stands", r.fault(), 7);
        for (int i = 1; i < 8; i++) {
            Check.due("rules " + i, Check.rules(r, "box 1;"), i);
        }
        Check.due("no fault any more", r.fault(), NONE);
        r.feed(0x626f7820, 0x373b6e6f, 0x7469636f, 0, 0);
        Check.due("a ninth", r.rules(6), -3);
        Check.due("a ninth with a fault", r.rules(3), -3);
        Check.due("a ninth that isn't there", r.rules(21), -2);
        Check.due("the tape stands", r.count(12), 20);
        Check.due("eight are taken", r.count(7), 8);
        Check.due("the fault is that of the eighth", r.fault(), NONE);
    }

    /** Bytes behind the n-th are no part of the text, whatever they would make of its last token. */
    private static void cutTexts() {
        String text = "notice 1234  ;box 5;";
        int[] want = {NONE, 0, 0, 0, 0, 0, 6, 7, 8, 9, 10, 11, 12, 13, NONE, 14, 14, 17, 18, 19, NONE};
        for (int n = 0; n < want.length; n++) {
            ServantRegistry r = new ServantRegistry();
            Check.feed(r, text.getBytes(java.nio.charset.StandardCharsets.ISO_8859_1));
            Check.due("the first " + n + " bytes", r.rules(n), want[n] == NONE ? 0 : NONE);
            Check.due("fault of the first " + n + " bytes", r.fault(), want[n]);
        }
    }

    private static void fault(String text, int want) {
        Check.due("fault of '" + text + "'", Check.faultOf(text), want);
    }

    /** The place is where '^' stands, which isn't part of the text. */
    private static void faultAt(String marked) {
        int at = marked.indexOf('^');
        fault(marked.substring(0, at) + marked.substring(at + 1), at);
    }

    private static void faults() {
        fault("", NONE);
        fault(" \n ", NONE);
        fault("fee house 1 2;fee servant 3 4 if wage<5;notice 1;back 1 within 2;age kitchen 3;"
                + "least house 4;least nurse 5 if post=1;bar church;step cook coach after 6;"
                + "step butler butler after 0;box 7;habit 8;", NONE);
        fault("notice\n30;box 1 ;\n", NONE);
        fault("notice30;box0007;", NONE);
        fault("fee house 1 2if wage<1and post>2or not(town=3)and age<4 or skills>5 and day=6;", NONE);
        faultAt("^wage");
        faultAt("^fees house 1 2;");
        faultAt("^fe");
        faultAt("^30;");
        faultAt("^;");
        faultAt("^Fee house 1 2;");
        faultAt("fee ^cook 1 2;");
        faultAt("fee house ^;");
        faultAt("fee house 1 ^;");
        faultAt("fee house 1 2 ^3;");
        faultAt("fee house 1 2 ^and wage<1;");
        faultAt("fee house 1 2 if ^;");
        faultAt("fee house 1 2 if ^house<1;");
        faultAt("fee house 1 2 if wage ^1;");
        faultAt("fee house 1 2 if wage <^>1;");
        faultAt("fee house 1 2 if wage<1^);");
        faultAt("fee house 1 2 if (wage<1^;");
        faultAt("fee house 1 2 if wage<1 and ^or;");
        faultAt("fee house 1 2 if wage<1 ^not post=1;");
        faultAt("notice 1 ^if wage<1;");
        faultAt("notice 1^\t;");
        faultAt("notice^-1;");
        faultAt("back 1 ^2;");
        faultAt("age ^servant 1;");
        faultAt("age cook 1 ^if wage<1;");
        faultAt("bar ^1;");
        faultAt("bar church ^1;");
        faultAt("step cook ^after 1;");
        faultAt("step cook butler ^1;");
        faultAt("box 1;^x");
        faultAt("box 1^" + (char) 233 + ";");
        faultAt("box 1^" + (char) 0 + ";");
        faultAt("box 1;^;");
        faultAt("fee house 1 2 if wage<1^");
        faultAt("fee house 1 2 if wage<^");
        faultAt("fee house 1 2 if not^");
        faultAt("fee^");
        faultAt("box 1   \n^");
        faultAt("^feehouse 1 2;");
        faultAt("^boxz 1;");
        faultAt("^boxa 1;");
        faultAt("box 1;^zz");
        faultAt("box ^12345;");
    }

    private static void faultsOfNumbers() {
        fault("fee house 9999 300;back 100 within 9999;", NONE);
        faultAt("fee house 9999 ^301;");
        faultAt("fee house ^10000 300;");
        faultAt("back ^101 within 9999;");
        faultAt("back 100 within ^00001;");
        fault("notice 9999;age cook 9999;least cook 9999;step cook cook after 9999;box 9999;", NONE);
        fault("least cook 0000 if wage=9999;habit 9999;", NONE);
        faultAt("least cook 0000 if wage=^10000;");
    }

    private static void faultsOfOpen() {
        fault("least cook 1 if ((((((((((wage<1))))))))));", NONE);
        faultAt("least cook 1 if ((((((((((^(wage<1)))))))))));");
        fault("least cook 1 if not not not not not(((((wage<1)))));", NONE);
        faultAt("least cook 1 if not not not not not(((((^not wage<1)))));");
        faultAt("least cook 1 if not not not not not not not not not not ^not wage<1;");
        fault("least cook 1 if not not not not not not not not not not wage<1 and not wage<2;", NONE);
        fault("least cook 1 if (((((((((wage<1)))))))))and((((((((((wage<1))))))))));", NONE);
    }

    private static void faultOfManyStatements() {
        StringBuilder thirty = new StringBuilder();
        for (int i = 0; i < 30; i++) {
            thirty.append("box ").append(i % 10).append(";");
        }
        fault(thirty.toString(), NONE);
        fault(thirty + " \n", NONE);
        fault(thirty + " box 1;", 181);
        fault(thirty + " x", 181);
        ServantRegistry r = new ServantRegistry();
        Check.rules(r, thirty.toString());
        Check.due("thirty statements", r.law(0, 6), 30);
    }

    private static void laws() {
        ServantRegistry r = new ServantRegistry();
        int[] bare = {30, 0, 0, 0, 3, 0, 0, NONE, NONE, NONE, 0, 0, 0, 0, 0, 0, NONE};
        for (int what = 0; what < bare.length; what++) {
            Check.due("bare: law(0, " + what + ")", r.law(0, what), bare[what]);
        }
        Check.rules(r, "notice 1;notice 2;back 3 within 4;back 5 within 6;box 7;box 8;habit 9;habit 0;"
                + "age kitchen 11;age kitchen 12;age house 13;age nurse 14;age cook 15;age coach 16;"
                + "age butler 17;bar church;");
        int[] taken = {2, 5, 6, 8, 0, 1, 16, 0, NONE, NONE, 12, 13, 14, 15, 16, 17, NONE};
        for (int what = 0; what < taken.length; what++) {
            Check.due("taken: law(0, " + what + ")", r.law(0, what), taken[what]);
        }
        Check.due("what below", r.law(0, -1), NONE);
        Check.due("day below", r.law(-1, 0), NONE);
        Check.due("day beyond", r.law(1000, 0), NONE);
        Check.due("the last day", r.law(999, 0), 2);
    }

    private static void lawsByDays() {
        ServantRegistry r = new ServantRegistry();
        r.day(10);
        Check.rules(r, "notice 1;");
        Check.rules(r, "box 2;");
        r.day(20);
        Check.rules(r, "notice 3;");
        Check.due("ahead of all", r.law(9, 7), NONE);
        Check.due("taken last on its day", r.law(10, 7), 1);
        Check.due("nothing of those before", r.law(10, 0), 30);
        Check.due("the day before the next", r.law(19, 7), 1);
        Check.due("the next", r.law(20, 7), 2);
        Check.due("days to come", r.law(500, 7), 2);
    }

    private static void fits() {
        ServantRegistry r = new ServantRegistry();
        r.servant(-20 * 365, 6, 1, 0);
        r.house(2);
        r.place(0, 0, 100, 1, 99, 0);
        r.place(0, 0, 100, 6, 21, 0);
        r.place(0, 0, 100, 2, 20, 0);
        r.place(0, 1, 100, 0, 20, 1);
        r.place(0, 1, 101, 0, 20, NONE);
        r.place(0, 2, 100, 0, 0, NONE);
        Check.due("lacks skills first of all", r.fit(0, 0, 0), 1);
        Check.due("below its age", r.fit(0, 1, 0), 2);
        Check.due("old enough a year later", r.fit(0, 1, 365), 3);
        Check.due("the day before", r.fit(0, 1, 364), 2);
        Check.due("another church", r.fit(0, 2, 0), 3);
        Check.due("its church", r.fit(0, 3, 0), 0);
        Check.due("no church asked for", r.fit(0, 4, 0), 0);
        r.day(1);
        Check.rules(r, "bar church;least house 101;age nurse 21;least kitchen 999 if post=1;"
                + "least cook 999;");
        Check.due("church barred", r.fit(0, 2, 1), 0);
        Check.due("not by the rules before", r.fit(0, 2, 0), 3);
        Check.due("wage below least", r.fit(0, 3, 1), 4);
        Check.due("wage at least", r.fit(0, 4, 1), 0);
        Check.due("below its post's age", r.fit(0, 5, 1), 2);
        Check.due("no servant", r.fit(1, 0, 0), NONE);
        Check.due("servant below", r.fit(-1, 0, 0), NONE);
        Check.due("no place", r.fit(0, 6, 0), NONE);
        Check.due("place below", r.fit(0, -1, 0), NONE);
        Check.due("day below", r.fit(0, 0, -1), NONE);
        Check.due("day beyond", r.fit(0, 0, 1000), NONE);
        r.servant(1, 255, 0, 0);
        Check.due("not born yet, age 0", r.fit(1, 0, 0), 2);
    }

    /** A servant of 20 years and 3 skills, a place of wage 100, post 3, town 2, on day 40. */
    private static boolean holds(String condition) {
        ServantRegistry r = new ServantRegistry();
        r.servant(-20 * 365, 7, 0, 4);
        r.house(2);
        r.place(0, 3, 100, 1, 0, NONE);
        Check.due("taken: " + condition, Check.rules(r, "least cook 999 if " + condition + ";"), 0);
        return r.fit(0, 0, 40) == 4;
    }

    private static void conditions() {
        String[] hold = {"wage=100", "post=3", "town=2", "age=20", "skills=3", "day=40",
            "wage<101", "wage>99", "not wage<100", "not wage>100", "not not wage=100",
            "wage=1 or wage=100", "wage=100 or wage=1", "wage=100 and post=3",
            "wage=100 or post=1 and town=1", "post=1 and town=1 or wage=100",
            "(wage=100 or post=1) and town=2", "not wage=1 and post=3", "not(wage=1 or post=1)",
            "wage=1 or post=1 or town=2", "wage=100 and post=3 and town=2 and age=20",
            "wage=1 and post=3 or town=2 and age=20 or day=1",
            "wage=1 or(post=1 or(town=1 or(age=1 or(skills=1 or(day=1 or(wage=1 or(post=3)))))))",
            "wage=1 or post=3 and(wage=1 or post=3 and(wage=1 or post=3 and(wage=1 or post=3)))",
            "wage=0100"};
        String[] fail = {"wage=99", "post=2", "town=4", "age=19", "skills=7", "day=0", "wage<100",
            "wage>100", "not wage=100", "wage=1 or wage=2", "wage=100 and post=1",
            "(wage=100 or post=1) and town=1", "not(wage=100 or post=1)", "not wage=100 or post=1",
            "not(wage=1 or post=3)and day=40", "wage=100 and(post=3 and(town=2 and not(age=20)))",
            "wage=1 or post=1 or town=1", "wage=1 and post=3 or town=2 and age=19"};
        for (String condition : hold) {
            Check.due(condition, holds(condition), true);
        }
        for (String condition : fail) {
            Check.due(condition, holds(condition), false);
        }
    }
}
