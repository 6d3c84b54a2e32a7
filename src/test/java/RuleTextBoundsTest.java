/**
 * Part 2 of the document's terms and promises 15 to 17: a test for each sentence that names a bound of
 * the tape, of a text of rules and of its fault.
 */
public final class RuleTextBoundsTest {
    private static final int NONE = ServantRegistry.NONE;
    /** One of each kind of statement, its tokens parted by blanks. */
    private static final String[] STATEMENTS = {"fee house 1 2 ;", "fee servant 3 4 if wage < 5 ;",
        "notice 6 ;", "back 7 within 8 ;", "age kitchen 9 ;", "least house 10 ;",
        "least nurse 11 if not ( post > 12 or town = 13 and age < 14 ) and skills = 15 or day > 16 ;",
        "bar church ;", "step cook coach after 17 ;", "step butler kitchen after 18 ;", "box 19 ;",
        "habit 20 ;"};

    public static void main(String[] args) {
        upTo700Bytes();
        theHighestByteFirst();
        everyByteOfATape();
        theFirstNBytes();
        theTapeIsEmptyThen();
        upToEightRules();
        faultOfTheLatestRules();
        moreMustCome();
        noSuchTextGoesOn();
        statementsInOneAnother();
        wordsOfLetters();
        tokensAsLongAsTheyGo();
        blanksBetweenTokens();
        bytesThatBeginNoToken();
        numbersOfOneToFourDigits();
        numbersBeyondTheirBounds();
        atMostTenOpen();
        openInOneAnotherAlone();
        atMostThirtyStatements();
        theLongestTexts();
        textsThatEndWithTheTape();
        Check.end();
    }

    private static void fault(String text, int want) {
        Check.due("fault of '" + text + "'", Check.faultOf(text), want);
    }

    /** "Twenty bytes come behind those on the tape ... NONE, doing nothing: there would be more than 700." */
    private static void upTo700Bytes() {
        ServantRegistry r = new ServantRegistry();
        int blank = 0x20202020;
        for (int many = 20; many <= 700; many += 20) {
            Check.due("bytes", r.count(12), many - 20);
            Check.due("feed", r.feed(blank, blank, blank, blank, blank), many);
        }
        for (int i = 0; i < 3; i++) {
            Check.due("more than 700", r.feed(1, 2, 3, 4, 5), NONE);
            Check.due("700 are there", r.count(12), 700);
        }
        Check.due("701 aren't there", r.rules(701), -2);
        Check.due("700 blanks are rules", r.rules(700), 0);
        Check.due("without a fault", r.fault(), NONE);
        Check.due("the tape has room again", r.feed(0, 0, 0, 0, 0), 20);
    }

    /** "of each number the highest first". */
    private static void theHighestByteFirst() {
        String text = "box 1234;notice 567;";
        int[] faults = {0, 0, 0, 3, 4, 5, 6, 7, 8, 9, 9, 9, 9, 9, 9, 15, 16, 17, 18, 19};
        for (int at = 0; at < faults.length; at++) {
            byte[] bytes = Given.bytes(text);
            bytes[at] = '?';
            ServantRegistry r = new ServantRegistry();
            Check.feed(r, bytes);
            Check.due("a strange byte at " + at, r.rules(20), NONE);
            Check.due("its fault at " + at, r.fault(), faults[at]);
        }
        ServantRegistry r = new ServantRegistry();
        r.feed(0x626f7820, 0x31323334, 0x3b6e6f74, 0x69636520, 0x3536373b);
        Check.due("the text as told", r.rules(20), 0);
        Check.due("its box", r.law(0, 3), 1234);
        Check.due("its notice", r.law(0, 0), 567);
    }

    /** A tape of blanks with one strange byte: its place is the fault, wherever it stands. */
    private static void everyByteOfATape() {
        for (int at = 0; at < 700; at++) {
            StringBuilder text = new StringBuilder();
            for (int i = 0; i < 700; i++) {
                text.append(i == at ? (char) 0 : i % 2 == 0 ? ' ' : '\n');
            }
            Check.due("a strange byte at " + at, Check.faultOf(text.toString()), at);
        }
    }

    private static ServantRegistry fed(String text) {
        ServantRegistry r = new ServantRegistry();
        Check.feed(r, Given.bytes(text));
        return r;
    }

    /** "The first n bytes of the tape"; "-2, doing nothing: n is below 0 or more than there are". */
    private static void theFirstNBytes() {
        Bounds.due("rules' n of none", 0, 0, n -> new ServantRegistry().rules(n) != -2);
        Bounds.due("rules' n of 20", 0, 20, n -> fed("box 1;").rules(n) != -2);
        Bounds.due("rules' n of 40", 0, 40, n -> fed("box 1; notice 12345678").rules(n) != -2);
        ServantRegistry r = fed("box 7; notice 5; bar");
        for (int n : Bounds.beyond(0, 20)) {
            Check.due("rules(" + n + ")", r.rules(n), -2);
            Check.due("the tape stands", r.count(12), 20);
        }
        Check.due("the first 6 bytes", r.rules(6), 0);
        Check.due("they are the rules", r.law(0, 3), 7);
        Check.due("bytes behind them aren't", r.law(0, 0), 30);
        Check.due("one statement", r.law(0, 6), 1);
    }

    /** "(which is empty then)", with a FAULT too. */
    private static void theTapeIsEmptyThen() {
        ServantRegistry r = fed("box 7; notice 5; bar");
        Check.due("none of its bytes", r.rules(0), 0);
        Check.due("the tape is empty behind none", r.count(12), 0);
        Check.due("one byte isn't there", r.rules(1), -2);
        Check.feed(r, Given.bytes("box 7; notice 5; bar"));
        Check.due("a fault", r.rules(20), NONE);
        Check.due("the tape is empty behind a fault", r.count(12), 0);
        Check.feed(r, Given.bytes("box 8;"));
        Check.due("a later text begins the tape", r.rules(6), 1);
        Check.due("it alone", r.law(0, 6), 1);
    }

    /** "Taken (up to 8)"; "-3, doing nothing: there are 8." */
    private static void upToEightRules() {
        ServantRegistry r = new ServantRegistry();
        for (int i = 0; i < 8; i++) {
            Check.due("rules", r.count(7), i);
            Check.due("a fault takes no room", Check.rules(r, "x"), NONE);
            Check.due("rules " + i, Check.rules(r, "box " + i + ";"), i);
        }
        Check.feed(r, Given.bytes("box 9;"));
        for (int n : new int[] {0, 1, 6, 20}) {
            Check.due("a ninth of " + n, r.rules(n), -3);
            Check.due("the tape stands", r.count(12), 20);
        }
        for (int n : Bounds.beyond(0, 20)) {
            Check.due("a ninth of " + n, r.rules(n), -2);
        }
        Check.due("eight are there", r.count(7), 8);
        Check.due("the last one holds", r.law(0, 3), 7);
        Check.due("its number", r.law(0, 7), 7);
        Check.due("the fault of the last one", r.fault(), NONE);
    }

    /** "The FAULT's place of the latest rules() that was a number or NONE; NONE: it had none." */
    private static void faultOfTheLatestRules() {
        ServantRegistry r = new ServantRegistry();
        Check.due("none at first", r.fault(), NONE);
        Check.due("-2 at first", r.rules(1), -2);
        Check.due("none behind -2", r.fault(), NONE);
        Check.due("a fault at 0", Check.rules(r, "x"), NONE);
        Check.due("its place 0", r.fault(), 0);
        Check.due("asked again", r.fault(), 0);
        Check.due("a later fault", Check.rules(r, "box 1; y"), NONE);
        Check.due("its place 7", r.fault(), 7);
        Check.due("-2", r.rules(-1), -2);
        Check.due("the place stands behind -2", r.fault(), 7);
        r.feed(0, 0, 0, 0, 0);
        Check.due("the place stands behind feed", r.fault(), 7);
        Check.due("taken", r.rules(0), 0);
        Check.due("no fault any more", r.fault(), NONE);
        for (int i = 1; i < 8; i++) {
            r.rules(0);
        }
        Check.rules(r, "x");
        Check.due("no fault behind -3", r.fault(), NONE);
        ServantRegistry full = new ServantRegistry();
        for (int i = 0; i < 7; i++) {
            full.rules(0);
        }
        Check.due("a fault with seven there", Check.rules(full, " x"), NONE);
        Check.due("its place", full.fault(), 1);
        full.rules(0);
        Check.due("no fault of the eighth", full.fault(), NONE);
    }

    /** "the text's length, if more must come". */
    private static void moreMustCome() {
        for (String statement : STATEMENTS) {
            String[] tokens = statement.split(" ");
            String text = "";
            for (int k = 0; k < tokens.length; k++) {
                text = text + (k == 0 ? "" : " ") + tokens[k];
                boolean whole = k == tokens.length - 1;
                fault(text, whole ? NONE : text.length());
                fault(text + " \n ", whole ? NONE : text.length() + 3);
                fault("box 1;" + text, whole ? NONE : text.length() + 6);
            }
        }
    }

    /** "the first token (or byte that begins none) with which no such text goes on". */
    private static void noSuchTextGoesOn() {
        for (String statement : STATEMENTS) {
            String[] tokens = statement.split(" ");
            String text = "";
            for (String token : tokens) {
                boolean number = Character.isDigit(token.charAt(0));
                for (String wrong : new String[] {"wrong", "#", "12345", "x 1", "after", "church", "7"}) {
                    if (!token.equals(wrong) && !(number && wrong.equals("7"))) {
                        fault(text + wrong, text.length());
                        fault(text + wrong + " ;", text.length());
                    }
                }
                text = text + token + " ";
            }
            fault(text + ";", text.length());
            fault(text + "1", text.length());
        }
    }

    /** Any number of statements in any order, none of which is needed. */
    private static void statementsInOneAnother() {
        fault("", NONE);
        fault(" ", NONE);
        fault("\n", NONE);
        for (String one : STATEMENTS) {
            for (String other : STATEMENTS) {
                fault(one + other, NONE);
            }
        }
        fault("fee house 1 2 if ;", 17);
        fault("fee house 1 2 if wage<1 if wage<1;", 24);
        fault("least cook 1 if ();", 17);
        fault("least cook 1 if (wage<1;", 23);
        fault("least cook 1 if wage<1);", 22);
        fault("least cook 1 if wage<1 or;", 25);
        fault("least cook 1 if or wage<1;", 16);
        fault("least cook 1 if 1<wage;", 16);
        fault("least cook 1 if wage<post;", 21);
        fault("least cook 1 if wage==1;", 21);
        fault("least cook 1 if wage<=1;", 21);
        fault("least cook 1 if not;", 19);
    }

    /** "POST: kitchen, house, nurse, cook, coach, butler"; "WORD: wage, post, town, age, skills, day". */
    private static void wordsOfLetters() {
        String[] posts = {"kitchen", "house", "nurse", "cook", "coach", "butler"};
        for (int p = 0; p < posts.length; p++) {
            ServantRegistry r = new ServantRegistry();
            Check.due("age of " + posts[p], Check.rules(r, "age " + posts[p] + " 7;"), 0);
            for (int q = 0; q < posts.length; q++) {
                Check.due("age of post " + q, r.law(0, 10 + q), p == q ? 7 : 0);
            }
            String shorter = posts[p].substring(0, posts[p].length() - 1);
            fault("age " + shorter + " 7;", 4);
            fault("age " + posts[p] + "s 7;", 4);
            fault("step " + posts[p] + " " + shorter + " after 1;", 6 + posts[p].length());
        }
        for (String word : new String[] {"wage", "post", "town", "age", "skills", "day"}) {
            fault("least cook 1 if " + word + "<1;", NONE);
            fault("least cook 1 if " + word + "s<1;", 16);
            fault("least cook 1 if " + word.substring(0, word.length() - 1) + "<1;", 16);
            fault("age " + word + " 1;", 4);
        }
        fault("least cook 1 if church=1;", 16);
        fault("fee church 1 2;", 4);
        fault("BOX 1;", 0);
        fault("boX 1;", 0);
        fault("age Cook 1;", 4);
    }

    /** "Tokens as long as they go: words of letters a to z, digits, signs". */
    private static void tokensAsLongAsTheyGo() {
        fault("box1;box 1;box1 ;", NONE);
        fault("notice12;bar church;", NONE);
        fault("barchurch;", 0);
        fault("ba r church;", 0);
        fault("bo x 1;", 0);
        fault("fee house 12;", 12);
        fault("fee house 1 2;", NONE);
        fault("fee house1 2;", NONE);
        fault("feehouse 1 2;", 0);
        fault("box 1 2;", 6);
        fault("box 12a;", 6);
        fault("box a12;", 4);
        fault("least cook 1if wage<1and wage<2or not(wage<3);", NONE);
        fault("least cook 1 ifwage<1;", 13);
        fault("least cook 1 if notwage<1;", 16);
        fault("least cook 1 if wage<1 andwage<1;", 23);
        fault("least cook 1 if not not((wage<1));", NONE);
        fault("least cook 1 if notnot wage<1;", 16);
        fault("least cook 1 if wage < 1 ; ;", 27);
        fault("step cook butler after1;", NONE);
        fault("step cookbutler after 1;", 5);
    }

    /** "between them blanks (bytes 32 and 10)". */
    private static void blanksBetweenTokens() {
        for (int b = 0; b < 256; b++) {
            boolean blank = b == 32 || b == 10;
            boolean digit = b >= '0' && b <= '9';
            boolean letter = b >= 'a' && b <= 'z';
            fault("box" + (char) b + "1;", blank || digit ? NONE : letter ? 0 : 3);
            fault("box 1" + (char) b + ";", blank || digit ? NONE : b == ';' ? 6 : 5);
            fault((char) b + "box 1;", blank ? NONE : 0);
            fault("box 1;" + (char) b, blank ? NONE : 6);
            fault("" + (char) b, blank ? NONE : 0);
        }
        fault("\n\n  \n box \n \n 1 \n ; \n", NONE);
    }

    /** "(or byte that begins none)": where the byte stands, whatever token stands ahead of it. */
    private static void bytesThatBeginNoToken() {
        for (int b : new int[] {0, 1, 9, 11, 13, 31, 33, 39, 42, 47, 58, 63, 64, 65, 90, 91, 96, 123, 127,
            128, 160, 255}) {
            char strange = (char) b;
            fault("fee" + strange, 3);
            fault("fee house 1" + strange, 11);
            fault("fee house 1 2 if wage<" + strange + "1;", 22);
            fault("fee house 1 2" + strange + ";", 13);
            fault("wrong" + strange, 0);
            fault("box 12345" + strange, 4);
        }
    }

    /** "NUMBER: one to four digits". */
    private static void numbersOfOneToFourDigits() {
        for (String number : new String[] {"0", "9", "00", "10", "99", "000", "100", "999", "0000", "0001",
            "1000", "9999"}) {
            ServantRegistry r = new ServantRegistry();
            Check.due("box " + number, Check.rules(r, "box " + number + ";"), 0);
            Check.due("its box", r.law(0, 3), Integer.parseInt(number));
        }
        for (String number : new String[] {"00000", "00001", "10000", "99999", "0000000000", "2147483647",
            "2147483648", "4294967296", "4294967297", "18446744073709551617"}) {
            fault("box " + number + ";", 4);
            fault("box " + number, 4);
        }
        fault("box ;", 4);
        fault("box -1;", 4);
        fault("box +1;", 4);
    }

    private static void number(String ahead, int most, String behind) {
        for (String taken : new String[] {"0", "0000", "1", Integer.toString(most)}) {
            fault(ahead + taken + behind, NONE);
        }
        for (String refused : new String[] {Integer.toString(most + 1), "99999", "00000"}) {
            fault(ahead + refused + behind, ahead.length());
        }
    }

    /** "of "fee" the second 0 to 300, of "back" the first 0 to 100"; "(a NUMBER beyond its bounds". */
    private static void numbersBeyondTheirBounds() {
        number("fee house ", 9999, " 300;");
        number("fee house 9999 ", 300, ";");
        number("fee servant ", 9999, " 0 if wage<1;");
        number("fee servant 0 ", 300, " if wage<1;");
        number("notice ", 9999, ";");
        number("back ", 100, " within 9999;");
        number("back 100 within ", 9999, ";");
        number("age butler ", 9999, ";");
        number("least butler ", 9999, ";");
        number("step butler cook after ", 9999, ";");
        number("box ", 9999, ";");
        number("habit ", 9999, ";");
        for (String word : new String[] {"wage", "post", "town", "age", "skills", "day"}) {
            for (String sign : new String[] {"<", ">", "="}) {
                number("least butler 1 if " + word + sign, 9999, ";");
            }
        }
        fault("fee house 1 0300;", NONE);
        fault("fee house 1 0301;", 12);
        fault("back 0100 within 1;", NONE);
        fault("back 0101 within 1;", 5);
        fault("fee house 1 9999;", 12);
        fault("back 9999 within 1;", 5);
        fault("fee house 1 301", 12);
        fault("back 101", 5);
    }

    private static String opened(String[] opens, String behind) {
        StringBuilder text = new StringBuilder("least cook 1 if ");
        for (String open : opens) {
            text.append(open).append(open.equals("not") ? " " : "");
        }
        text.append("wage<1");
        for (String open : opens) {
            text.append(open.equals("(") ? ")" : "");
        }
        return text.append(behind).toString();
    }

    /** ""not" and "(": at most 10 open in one another"; "the eleventh open, too". */
    private static void atMostTenOpen() {
        for (int mix = 0; mix < 1 << 11; mix += 1 + mix % 7) {
            String[] ten = new String[10];
            String[] eleven = new String[11];
            int at = "least cook 1 if ".length();
            for (int i = 0; i < 11; i++) {
                eleven[i] = (mix >> i & 1) == 0 ? "(" : "not";
                if (i < 10) {
                    ten[i] = eleven[i];
                    at += ten[i].equals("(") ? 1 : 4;
                }
            }
            fault(opened(ten, ";"), NONE);
            fault(opened(eleven, ";"), at);
        }
        fault("least cook 1 if ((((((((((", 26);
        fault("least cook 1 if (((((((((((", 26);
        fault("least cook 1 if ((((((((((not", 26);
        fault("least cook 1 if ((((((((((;", 26);
    }

    /** What is closed again isn't open any more, and what stands beside isn't in it. */
    private static void openInOneAnotherAlone() {
        String ten = "((((((((((wage<1))))))))))";
        String nots = "not not not not not not not not not not wage<1";
        fault("least cook 1 if " + ten + "and" + ten + "or" + ten + ";", NONE);
        fault("least cook 1 if " + nots + " and " + nots + " or " + nots + ";", NONE);
        fault("least cook 1 if " + nots + " and " + ten + ";", NONE);
        fault("least cook 1 if (((((((((wage<1 and(wage<2)or(wage<3)and not wage<4)))))))));", NONE);
        String nine = "least cook 1 if (((((((((wage<1 and not ";
        fault(nine + "(wage<2))))))))));", nine.length());
        fault(nine + "not wage<2)))))))));", nine.length());
        fault("least cook 1 if " + ten + ";least cook 1 if " + ten + ";", NONE);
        fault("least cook 1 if " + ten + ";fee house 1 2 if not " + ten + ";", 73);
    }

    private static String repeated(String statement, int many) {
        StringBuilder text = new StringBuilder();
        for (int i = 0; i < many; i++) {
            text.append(statement);
        }
        return text.toString();
    }

    /** "At most 30 statements"; "the 31st statement: where it begins". */
    private static void atMostThirtyStatements() {
        for (String statement : new String[] {"box 1;", "bar church;", "age cook 1;", "fee house 1 2;"}) {
            String thirty = repeated(statement, 30);
            fault(repeated(statement, 29), NONE);
            fault(thirty, NONE);
            fault(thirty + " \n\n", NONE);
            fault(thirty + statement, thirty.length());
            fault(thirty + " \n" + statement, thirty.length() + 2);
            fault(thirty + "  b", thirty.length() + 2);
            fault(thirty + ";", thirty.length());
            fault(thirty + " ?", thirty.length() + 1);
        }
        ServantRegistry r = new ServantRegistry();
        Check.due("thirty are taken", Check.rules(r, repeated("box 1;", 29) + "box 2;"), 0);
        Check.due("thirty are there", r.law(0, 6), 30);
        Check.due("the thirtieth holds", r.law(0, 3), 2);
        ServantRegistry q = new ServantRegistry();
        Check.due("thirty-one aren't taken", Check.rules(q, repeated("box 1;", 31)), NONE);
        Check.due("none of them", q.law(0, 3), 0);
        Check.due("none are there", q.count(7), 0);
    }

    /** Texts of 700 bytes: the last byte counts. */
    private static void theLongestTexts() {
        String blanks = repeated(" ", 694);
        fault(blanks + "box 1;", NONE);
        fault("box 1;" + blanks, NONE);
        fault(blanks + " box 1", 700);
        fault(blanks + "box 1:", 699);
        StringBuilder any = new StringBuilder("least cook 1 if age<1");
        while (any.length() + 10 < 700) {
            any.append(any.length() % 2 == 0 ? " or age<1" : " and age=2");
        }
        String text = any + repeated(" ", 699 - any.length()) + ";";
        fault(text, NONE);
        fault(text.substring(0, 699), 699);
        fault(text.substring(0, 699) + ")", 699);
    }

    /** Each beginning of a statement, once as it is and once with blanks ahead of it up to 700 bytes. */
    private static void textsThatEndWithTheTape() {
        for (String statement : STATEMENTS) {
            for (int end = 1; end <= statement.length(); end++) {
                String text = statement.substring(0, end);
                String blanks = repeated(" ", 700 - end);
                int alone = Check.faultOf(text);
                fault(blanks + text, alone == NONE ? NONE : alone + blanks.length());
            }
        }
    }
}
