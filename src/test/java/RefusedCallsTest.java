import java.util.ArrayList;
import java.util.List;

/**
 * After a call that is refused "doing nothing", all later answers are what they are without it: each
 * refused call is made on an empty, an ordinary and a full registry, and all that can be asked
 * afterwards is compared with what the same registry answers without it. What is only asked changes
 * nothing either.
 */
public final class RefusedCallsTest {
    private static final int NONE = ServantRegistry.NONE;
    private static final int MOST_CALLS = 512;
    private static final int TODAY = 50;

    private final String name;
    /** The calls that make the registry. */
    private final List<Call> made;
    /** What changes nothing and may come in any portions, and what is told in one go. */
    private final List<Call> asked = new ArrayList<>();
    private final List<Call> told = new ArrayList<>();
    private List<Long> due;
    private int refused = 0;

    private RefusedCallsTest(String name, List<Call> made) {
        this.name = name;
        this.made = made;
    }

    public static void main(String[] args) {
        onAnEmptyRegistry();
        onAnOrdinaryRegistry();
        onAFullRegistry();
        Check.end();
    }

    private static void add(List<Call> calls, String name, Object... arguments) {
        calls.add(Call.of(name, arguments));
    }

    private ServantRegistry registry() {
        ServantRegistry r = new ServantRegistry();
        for (Call call : made) {
            call.on(r);
        }
        return r;
    }

    /** The answers to all that is asked and told behind a call (null: behind none). */
    private List<Long> answersBehind(Call call) {
        List<Long> answers = new ArrayList<>();
        int room = MOST_CALLS - made.size() - 1;
        for (int at = 0; at < asked.size(); at += room) {
            ServantRegistry r = registry();
            if (call != null) {
                call.on(r);
            }
            for (Call one : asked.subList(at, Math.min(asked.size(), at + room))) {
                answers.add(one.on(r));
            }
        }
        ServantRegistry r = registry();
        if (call != null) {
            call.on(r);
        }
        Check.due(name + ": room for what is told", told.size() <= room, true);
        for (Call one : told) {
            answers.add(one.on(r));
        }
        return answers;
    }

    private void refuses(Call call, long answer) {
        Check.due(name + ": " + call, call.on(registry()), answer);
        changesNothing(call);
        refused++;
    }

    private void changesNothing(Call call) {
        if (due == null) {
            due = answersBehind(null);
        }
        List<Long> answers = answersBehind(call);
        Check.due(name + ": as many answers behind " + call, answers.size(), due.size());
        for (int i = 0; i < due.size(); i++) {
            if (!due.get(i).equals(answers.get(i))) {
                Call later = i < asked.size() ? asked.get(i) : told.get(i - asked.size());
                Check.due(name + ": " + later + " behind " + call, answers.get(i), due.get(i));
            }
        }
    }

    private void refuses(long answer, String call, Object... arguments) {
        refuses(Call.of(call, arguments), answer);
    }

    /** Each argument in its turn is less than its least and more than its greatest number, and far off. */
    private void refusesBeyond(Call taken, long answer, int[]... ranges) {
        for (int i = 0; i < ranges.length; i++) {
            for (int number : Bounds.beyond(ranges[i][0], ranges[i][1])) {
                refuses(taken.with(i, number), answer);
            }
        }
    }

    private static int[] range(int least, int most) {
        return new int[] {least, most};
    }

    private void holds(int... counts) {
        ServantRegistry r = registry();
        for (int what = 0; what < counts.length; what++) {
            Check.due(name + ": count " + what + " of what was made", r.count(what), counts[what]);
        }
    }

    private void end(int least) {
        Check.due(name + ": enough refused calls", refused >= least, true);
    }

    // ---- what is asked and told behind a refused call

    private void askCounts() {
        for (int what = 0; what <= 12; what++) {
            add(asked, "count", what);
        }
        add(asked, "fault");
        add(asked, "judge");
        for (int what = 0; what <= 15; what++) {
            add(asked, "chain", what);
            for (int day : new int[] {0, TODAY - 1, TODAY, 999}) {
                add(asked, "law", day, what);
            }
        }
    }

    private void askServants(int servants, int places) {
        for (int s = 0; s < servants; s++) {
            for (int day : new int[] {0, 20, TODAY, 999}) {
                add(asked, "in", s, day, TODAY);
                add(asked, "in", s, day, 999);
            }
            add(asked, "twice", s, TODAY, 0);
            add(asked, "twice", s, 999, 1);
            add(asked, "dealt", s);
            for (int post = 0; post < 6; post++) {
                add(asked, "steps", s, post, 0);
                add(asked, "steps", s, post, 1);
            }
            for (int p = 0; p < places; p++) {
                add(asked, "fit", s, p, TODAY);
            }
        }
        for (int p = 0; p < places; p++) {
            add(asked, "holder", p, TODAY, TODAY);
            add(asked, "holder", p, 20, 999);
        }
    }

    private void askPlacings(int placings) {
        for (int i = 0; i < placings; i++) {
            for (int what = 0; what <= 11; what++) {
                add(asked, "placed", i, what);
            }
            add(asked, "wages", i, 0, 999);
        }
    }

    private void askPapers(int houses, int characters, int asks) {
        for (int h = 0; h < houses; h++) {
            add(asked, "leftMore", h);
            for (int what = 0; what <= 2; what++) {
                add(asked, "habit", h, what);
            }
        }
        for (int c = 0; c < characters; c++) {
            add(asked, "isFalse", c, TODAY);
            for (int what = 0; what <= 3; what++) {
                add(asked, "written", c, what);
            }
        }
        for (int a = 0; a < asks; a++) {
            for (int k = NONE; k <= 3; k++) {
                add(asked, "like", a, k);
            }
        }
    }

    /** One more of each kind, so that what a refused call would have taken is missed. */
    private void tellMore() {
        add(told, "tell", 1, NONE);
        add(told, "judge");
        add(told, "servant", -8000, 7, 1, 1);
        add(told, "house", 1);
        add(told, "place", 0, 3, 400, 1, 16, 1);
        add(told, "ask", 0, 0, true);
        add(told, "like", 0, 0);
        add(told, "write", 0, 0, 4, 3, 7);
        add(told, "box", 0, 40);
        add(told, "box", 1, 40);
        add(told, "leave", 0, 30, 4, 1);
        add(told, "leave", 1, 30, 4, 1);
        add(told, "undo", 0);
        add(told, "undo", 1);
        add(told, "placing", 0, 1, 5);
        add(told, "placing", 0, 2, 6);
        add(told, "empty", 0, 30);
        add(told, "empty", 1, 40);
        add(told, "free", 0, 30);
        add(told, "free", 1, 40);
        add(told, "chain", 1);
        add(told, "clear");
        add(told, "empty", 0, 30);
        add(told, "free", 1, 40);
        add(told, "chain", 1);
        add(told, "feed", 0x20202020, 0x20202020, 0x20202020, 0x20202020, 0x626f7820);
        add(told, "count", 12);
        add(told, "wish", 0, 0, Given.row(1, 0));
        add(told, "wish", 1, 1, Given.row(1, 0));
        add(told, "dealt", 0);
        add(told, "tell", 0, 1);
        add(told, "judge");
        add(told, "rules", 40);
        add(told, "fault");
        add(told, "law", 999, 0);
        add(told, "law", 999, 6);
        add(told, "rules", 0);
        add(told, "day", TODAY + 1);
        for (int town = 0; town < 3; town++) {
            add(told, "placing", 0, town, 9);
        }
        for (int i = 0; i <= 9; i++) {
            add(told, "placed", i, 5);
            add(told, "placed", i, 11);
        }
        for (int what = 0; what <= 12; what++) {
            add(told, "count", what);
        }
    }

    // ---- the empty registry

    private static void onAnEmptyRegistry() {
        RefusedCallsTest t = new RefusedCallsTest("empty", new ArrayList<>());
        t.askCounts();
        t.askServants(2, 2);
        t.askPlacings(2);
        t.askPapers(2, 2, 2);
        t.tellMore();
        t.refusesBeyond(Call.of("day", 1), 0, range(1, 999));
        t.refuses(0, "day", 0);
        t.refusesBeyond(Call.of("servant", 0, 0, 0, 0), NONE, range(-20_000, 0), range(0, 255), range(0, 3),
                range(0, 4));
        t.refusesBeyond(Call.of("house", 0), NONE, range(0, 4));
        t.refusesBeyond(Call.of("lag", 0, 7), 0, range(0, 4), range(0, 30));
        for (int number : new int[] {Integer.MIN_VALUE, NONE, 0, 1, Integer.MAX_VALUE}) {
            t.refusesWithoutAny(number);
        }
        t.refusesBeyond(Call.of("rules", 0), -2, range(0, 0));
        t.refuses(-2, "rules", 1);
        t.end(70);
    }

    /** There is no servant, house, place, placing, character or ask of this number, nor of any. */
    private void refusesWithoutAny(int number) {
        refuses(NONE, "place", number, 0, 1, 0, 0, NONE);
        refuses(NONE, "placing", number, number, 0);
        refuses(0, "leave", number, 0, 0, 0);
        refuses(0, "undo", number);
        refuses(NONE, "write", number, number, 0, 0, 0);
        refuses(NONE, "wish", 0, number, 0L);
        refuses(NONE, "wish", 1, number, 0L);
        refuses(0, "tell", number, NONE);
        refuses(NONE, "empty", number, 0);
        refuses(NONE, "free", number, 0);
        refuses(NONE, "ask", number, number, true);
        refuses(NONE, "box", number, 1);
        refuses(NONE, "in", number, 0, 0);
        refuses(NONE, "holder", number, 0, 0);
        refuses(NONE, "twice", number, 0, 0);
        refuses(-2_000_000_000, "placed", number, 0);
        refuses(NONE, "wages", number, 0, 0);
        refuses(NONE, "fit", number, number, 0);
        refuses(NONE, "written", number, 0);
        refuses(NONE, "isFalse", number, 0);
        refuses(NONE, "habit", number, 0);
        refuses(NONE, "dealt", number);
        refuses(NONE, "steps", number, 0, 0);
        refuses(NONE, "like", number, 0);
        refuses(NONE, "leftMore", number);
    }

    // ---- an ordinary registry

    private static final int SERVANTS = 4;
    private static final int HOUSES = 3;
    private static final int PLACES = 5;
    private static final int PLACINGS = 6;

    private static List<Call> ordinary() {
        List<Call> calls = new ArrayList<>();
        for (int s = 0; s < SERVANTS; s++) {
            add(calls, "servant", -9000 + 365 * s, 7 - s, s % 2, s);
        }
        for (int h = 0; h < HOUSES; h++) {
            add(calls, "house", h);
        }
        add(calls, "lag", 1, 3);
        for (int p = 0; p < PLACES; p++) {
            add(calls, "place", p % HOUSES, p, 100 + 50 * p, p % 2, 10, p == 4 ? 1 : NONE);
        }
        String rules = "fee house 5 10;notice 9;box 20;habit 1;back 50 within 30;step kitchen cook after 9;";
        calls.addAll(Call.feeds(rules));
        add(calls, "rules", rules.length());
        add(calls, "day", 10);
        for (int i = 0; i < PLACINGS; i++) {
            add(calls, "placing", i % SERVANTS, i % PLACES, i);
        }
        add(calls, "write", 2, 2, 8, 2, 9);
        add(calls, "day", 30);
        add(calls, "leave", 2, 20, 3, 1);
        add(calls, "leave", 3, 20, 3, 1);
        add(calls, "leave", 5, 28, 3, 1);
        add(calls, "undo", 3);
        add(calls, "day", TODAY);
        add(calls, "placing", 2, 0, 25);
        add(calls, "leave", PLACINGS, 45, 0, 0);
        add(calls, "write", 0, 0, 5, 0, 30);
        add(calls, "box", 2, 7);
        add(calls, "ask", 0, 0, true);
        add(calls, "ask", 2, 0, false);
        add(calls, "ask", 3, 3, false);
        add(calls, "ask", 1, 0, false);
        add(calls, "wish", 0, 3, Given.row(3, 2));
        add(calls, "wish", 0, 2, Given.row(3, 2));
        add(calls, "wish", 1, 2, Given.row(3, 2));
        add(calls, "wish", 1, 3, Given.row(2, 3));
        add(calls, "tell", 3, 3);
        add(calls, "tell", 1, 4);
        add(calls, "empty", 3, 60);
        add(calls, "empty", 2, 50);
        add(calls, "free", 3, 55);
        add(calls, "free", 2, 70);
        calls.addAll(Call.feeds("notice 1; fault"));
        add(calls, "rules", 15);
        calls.addAll(Call.feeds("notice 77; box 3; habit 2;"));
        return calls;
    }

    private static void onAnOrdinaryRegistry() {
        RefusedCallsTest t = new RefusedCallsTest("ordinary", ordinary());
        t.holds(TODAY, SERVANTS, HOUSES, PLACES, PLACINGS + 1, 4, 1, 1, 2, 4, 1, 7, 40);
        t.askCounts();
        t.askServants(SERVANTS, PLACES);
        t.askPlacings(PLACINGS + 1);
        t.askPapers(HOUSES, 2, 4);
        t.tellMore();
        t.tellsOfPeople();
        t.tellsOfPlacings();
        t.tellsOfRules();
        t.tellsOfPapers();
        t.tellsOfDealing();
        t.tellsOfChains();
        t.queries();
        for (Call call : t.asked) {
            t.changesNothing(call);
        }
        t.end(300);
    }

    private void tellsOfPeople() {
        refusesBeyond(Call.of("day", 60), 0, range(TODAY + 1, 999));
        refuses(0, "day", 0);
        refusesBeyond(Call.of("servant", 0, 0, 0, 0), NONE, range(-20_000, TODAY), range(0, 255), range(0, 3),
                range(0, 4));
        refusesBeyond(Call.of("house", 0), NONE, range(0, 4));
        refusesBeyond(Call.of("lag", 0, 7), 0, range(0, 4), range(0, 30));
        refusesBeyond(Call.of("place", 0, 0, 1, 0, 0, NONE), NONE, range(0, HOUSES - 1), range(0, 5),
                range(1, 999), range(0, 255), range(0, 99), range(NONE, 3));
    }

    private void tellsOfPlacings() {
        refusesBeyond(Call.of("placing", 0, 0, 0), NONE, range(0, SERVANTS - 1), range(0, PLACES - 1),
                range(0, TODAY));
        refusesBeyond(Call.of("leave", 1, 30, 0, 0), 0, range(0, PLACINGS), range(1, TODAY), range(0, 99),
                range(0, 4));
        for (int left : new int[] {2, 3, 5, PLACINGS}) {
            refuses(0, "leave", left, 30, 50, 4);
            refuses(0, "leave", left, TODAY, 3, 1);
        }
        refusesBeyond(Call.of("undo", 0), 0, range(0, PLACINGS));
        refuses(0, "undo", 3);
        refusesBeyond(Call.of("box", 0, 5), NONE, range(0, PLACINGS), range(1, 9999));
        refuses(NONE, "box", 2, 7);
        refuses(NONE, "box", 2, 8);
    }

    private void tellsOfRules() {
        refusesBeyond(Call.of("rules", 0), -2, range(0, 40));
    }

    private void tellsOfPapers() {
        refusesBeyond(Call.of("write", 0, 0, 0, 0, TODAY), NONE, range(0, HOUSES - 1), range(0, SERVANTS - 1),
                range(0, 9), range(0, TODAY), range(0, TODAY));
        refuses(NONE, "write", 0, 0, 0, 31, 30);
        refusesBeyond(Call.of("ask", 0, 0, true), NONE, range(0, SERVANTS - 1), range(0, PLACES - 1));
    }

    private void tellsOfDealing() {
        long[] rows = {-1, Long.MIN_VALUE, Long.MAX_VALUE, 32, 33 * 32 + 1, Given.row(1, 2, 1), Given.row(5),
            Given.row(0, 5), 1L << 60, 31};
        for (long row : rows) {
            refuses(NONE, "wish", 0, 3, row);
            refuses(NONE, "wish", 0, 2, row);
            refuses(NONE, "wish", 1, 3, row);
            refuses(NONE, "wish", 1, 2, row);
        }
        refusesBeyond(Call.of("wish", 0, 3, 1L), NONE, range(0, 1), range(0, SERVANTS - 1));
        refusesBeyond(Call.of("wish", 1, 3, 1L), NONE, range(0, 1), range(0, PLACES - 1));
        refusesBeyond(Call.of("tell", 3, 2), 0, range(0, SERVANTS - 1), range(NONE, PLACES - 1));
    }

    private void tellsOfChains() {
        refusesBeyond(Call.of("empty", 0, 0), NONE, range(0, PLACES - 1), range(0, 1999));
        refusesBeyond(Call.of("free", 0, 0), NONE, range(0, SERVANTS - 1), range(0, 1999));
        refuses(NONE, "empty", 3, 0);
        refuses(NONE, "empty", 2, 0);
        refuses(NONE, "free", 3, 0);
        refuses(NONE, "free", 2, 0);
    }

    /** What is asked of none such does nothing either. */
    private void queries() {
        int[] day = range(0, 999);
        refusesBeyond(Call.of("in", 0, 0, 0), NONE, range(0, SERVANTS - 1), day, day);
        refusesBeyond(Call.of("holder", 0, 0, 0), NONE, range(0, PLACES - 1), day, day);
        refusesBeyond(Call.of("twice", 0, TODAY, 0), NONE, range(0, SERVANTS - 1), day, range(0, 1));
        refusesBeyond(Call.of("placed", 0, 0), -2_000_000_000, range(0, PLACINGS), range(0, 11));
        refusesBeyond(Call.of("wages", 0, 0, 999), NONE, range(0, PLACINGS), day, day);
        refuses(NONE, "wages", 0, 8, 7);
        refusesBeyond(Call.of("law", 0, 0), NONE, day, range(0, 7));
        refuses(NONE, "law", 0, 9);
        refuses(NONE, "law", 0, 16);
        refusesBeyond(Call.of("fit", 0, 0, 0), NONE, range(0, SERVANTS - 1), range(0, PLACES - 1), day);
        refusesBeyond(Call.of("written", 0, 0), NONE, range(0, 1), range(0, 3));
        refusesBeyond(Call.of("isFalse", 1, TODAY), NONE, range(0, 1), day);
        refusesBeyond(Call.of("habit", 0, 0), NONE, range(0, HOUSES - 1), range(0, 2));
        refusesBeyond(Call.of("dealt", 0), NONE, range(0, SERVANTS - 1));
        refusesBeyond(Call.of("steps", 0, 0, 0), NONE, range(0, SERVANTS - 1), range(0, 5), range(0, 1));
        refusesBeyond(Call.of("chain", 0), NONE, range(0, 1));
        refusesBeyond(Call.of("chain", 10), NONE, range(10, 11));
        refusesBeyond(Call.of("like", 0, 0), NONE, range(0, 3), range(NONE, 3));
        refusesBeyond(Call.of("leftMore", 0), NONE, range(0, HOUSES - 1));
        refusesBeyond(Call.of("count", 0), NONE, range(0, 12));
    }

    // ---- the full registry

    private static List<Call> full() {
        List<Call> calls = new ArrayList<>();
        for (int s = 0; s < 24; s++) {
            add(calls, "servant", -9000, s, s % 4, s % 5);
        }
        for (int h = 0; h < 12; h++) {
            add(calls, "house", h % 5);
        }
        for (int p = 0; p < 30; p++) {
            add(calls, "place", p % 12, p % 6, 100 + p, 0, 0, NONE);
        }
        for (int i = 0; i < 7; i++) {
            add(calls, "rules", 0);
        }
        calls.addAll(Call.feeds("box 9;notice 20;"));
        add(calls, "rules", 20);
        add(calls, "lag", 1, 4);
        add(calls, "day", TODAY);
        for (int i = 0; i < 60; i++) {
            add(calls, "placing", i % 20, i % 28, i / 2);
            add(calls, "write", i % 12, i % 24, i % 10, i / 2, TODAY);
            add(calls, "ask", i % 24, i % 30, i % 3 == 0);
        }
        for (int i = 0; i < 30; i++) {
            add(calls, "box", i, 1 + i);
        }
        for (int i = 2; i < 6; i++) {
            add(calls, "leave", i, 40, i, i - 2);
            add(calls, "undo", i + 10);
        }
        for (int i = 0; i < 6; i++) {
            add(calls, "empty", i + 2, 10 * i);
            add(calls, "free", i + 2, 35);
        }
        add(calls, "wish", 0, 23, Given.row(29, 28));
        add(calls, "wish", 1, 28, Given.row(23));
        add(calls, "tell", 23, 28);
        StringBuilder tape = new StringBuilder();
        while (tape.length() < 690) {
            tape.append("box 1;    ");
        }
        calls.addAll(Call.feeds(tape.toString()));
        return calls;
    }

    private static void onAFullRegistry() {
        RefusedCallsTest t = new RefusedCallsTest("full", full());
        t.holds(TODAY, 24, 12, 30, 60, 4, 4, 8, 60, 60, 30, 234, 700);
        t.askCounts();
        t.askServants(24, 6);
        t.askPlacings(60);
        t.askPapers(12, 60, 60);
        t.tellMore();
        t.refuses(NONE, "servant", -9000, 0, 0, 0);
        t.refuses(NONE, "servant", -20_001, 0, 0, 0);
        t.refuses(NONE, "house", 1);
        t.refuses(NONE, "house", 5);
        t.refuses(NONE, "place", 0, 0, 1, 0, 0, NONE);
        t.refuses(NONE, "placing", 0, 0, TODAY);
        t.refuses(NONE, "placing", 23, 29, 0);
        t.refuses(NONE, "write", 0, 0, 0, 0, 0);
        t.refuses(NONE, "ask", 0, 0, true);
        t.refuses(NONE, "ask", 23, 29, false);
        t.refuses(NONE, "box", 30, 5);
        t.refuses(NONE, "box", 59, 9999);
        t.refuses(NONE, "box", 0, 5);
        t.refuses(NONE, "empty", 0, 0);
        t.refuses(NONE, "empty", 2, 0);
        t.refuses(NONE, "empty", 29, 1999);
        t.refuses(NONE, "free", 0, 0);
        t.refuses(NONE, "free", 2, 0);
        t.refuses(NONE, "free", 23, 1999);
        t.refuses(NONE, "feed", 0x626f7820, 0x373b2020, 0, 0, 0);
        t.refuses(NONE, "feed", -1, Integer.MIN_VALUE, Integer.MAX_VALUE, 0, 1);
        for (int n : new int[] {0, 1, 6, 699, 700}) {
            t.refuses(-3, "rules", n);
        }
        t.refusesBeyond(Call.of("rules", 0), -2, range(0, 700));
        t.refuses(0, "leave", 2, 40, 0, 0);
        t.refuses(0, "undo", 12);
        t.end(30);
    }
}
