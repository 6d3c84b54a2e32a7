import java.util.ArrayList;
import java.util.List;
import java.util.function.Predicate;

/**
 * The document's terms written down once more, as plainly as can be: days are gone through singly
 * and all pairings and givings are tried. Its calls expect arguments as told.
 */
final class Model {
    static final int NONE = -1;

    record Servant(int born, int skills, int church) {
        int age(int day) {
            return day < born ? 0 : (day - born) / 365;
        }
    }

    record Place(int house, int post, int wage, int skills, int age, int church) {
    }

    /** What a condition is asked of. */
    record Case(int wage, int post, int town, int age, int skills, int day) {
    }

    /** kind is the statement's first word; who is a side or a post; a and b its numbers or a post. */
    record Said(String kind, int who, int a, int b, Predicate<Case> condition) {
        boolean is(String word, int whose) {
            return kind.equals(word) && who == whose;
        }
    }

    record Book(int day, List<Said> said) {
        Said last(String kind, int who) {
            Said found = null;
            for (Said s : said) {
                found = s.is(kind, who) ? s : found;
            }
            return found;
        }

        int number(String kind, int who, int without) {
            Said found = last(kind, who);
            return found == null ? without : found.a;
        }

        Said first(String kind, int who, Case asked) {
            for (Said s : said) {
                if (s.is(kind, who) && s.condition.test(asked)) {
                    return s;
                }
            }
            return null;
        }
    }

    static final class Placing {
        int servant;
        int place;
        int from;
        int known;
        int left = NONE;
        int leftKnown = NONE;
        int notice;
        int cause = NONE;
        int undone = NONE;
    }

    record Written(int house, int servant, int mark, int from, int to, int day) {
    }

    record Asked(int servant, int place, boolean yes, int day) {
    }

    int today;
    final int[] lag = new int[5];
    final List<Integer> houses = new ArrayList<>();
    final List<Servant> servants = new ArrayList<>();
    final List<Place> places = new ArrayList<>();
    final List<Placing> placings = new ArrayList<>();
    final List<Book> books = new ArrayList<>();
    final List<Written> characters = new ArrayList<>();
    final List<Asked> asks = new ArrayList<>();
    final List<List<Integer>> servantWishes = new ArrayList<>();
    final List<List<Integer>> placeWishes = new ArrayList<>();
    final List<Integer> told = new ArrayList<>();
    final List<int[]> empties = new ArrayList<>();
    final List<int[]> frees = new ArrayList<>();

    Book book(int day) {
        Book found = new Book(0, List.of());
        for (Book b : books) {
            found = b.day <= day ? b : found;
        }
        return found;
    }

    boolean known(Placing p, int by) {
        return by >= p.known && !(p.undone != NONE && by >= p.undone);
    }

    boolean on(Placing p, int day, int by) {
        boolean left = p.left != NONE && p.leftKnown <= by && p.left <= day;
        return known(p, by) && p.from <= day && !left;
    }

    int in(int servant, int day, int by) {
        int found = NONE;
        for (int i = 0; i < placings.size(); i++) {
            Placing p = placings.get(i);
            if (p.servant == servant && on(p, day, by)
                    && (found == NONE || p.from >= placings.get(found).from)) {
                found = i;
            }
        }
        return found;
    }

    int houseOf(Placing p) {
        return places.get(p.place).house;
    }

    int holder(int place, int day, int by) {
        for (int s = 0; s < servants.size(); s++) {
            int at = in(s, day, by);
            if (at != NONE && placings.get(at).place == place) {
                return s;
            }
        }
        return NONE;
    }

    int twice(int servant, int by, int what) {
        for (int i = 0; i < placings.size(); i++) {
            for (int j = i + 1; j < placings.size(); j++) {
                for (int day = 0; day <= 999; day++) {
                    Placing a = placings.get(i);
                    Placing b = placings.get(j);
                    if (a.servant == servant && b.servant == servant && on(a, day, by) && on(b, day, by)) {
                        return what == 0 ? i : j;
                    }
                }
            }
        }
        return NONE;
    }

    Case ask(int servant, int place, int day) {
        Place p = places.get(place);
        Servant s = servants.get(servant);
        return new Case(p.wage, p.post, houses.get(p.house), s.age(day), Integer.bitCount(s.skills), day);
    }

    int fee(Placing p, int side) {
        Said s = book(p.from).first("fee", side, ask(p.servant, p.place, p.from));
        return s == null ? 0 : s.a + places.get(p.place).wage * s.b / 100;
    }

    int back(Placing p) {
        Said s = book(p.from).last("back", 0);
        boolean soon = s != null && p.left != NONE && p.left <= p.from + s.b;
        return soon ? fee(p, 0) * s.a / 100 : 0;
    }

    int owed(Placing p) {
        if (p.left == NONE || p.cause == 0 || p.cause == 4) {
            return 0;
        }
        int notice = book(p.left).number("notice", 0, 30);
        return p.notice < notice ? -(places.get(p.place).wage * (notice - p.notice) / 30) : 0;
    }

    int placed(int placing, int what) {
        Placing p = placings.get(placing);
        int[] all = {p.servant, p.place, p.from, p.left, p.cause, p.known, p.leftKnown, p.undone,
            fee(p, 0), fee(p, 1), back(p), owed(p)};
        return all[what];
    }

    int wages(int placing, int from, int to) {
        Placing p = placings.get(placing);
        int days = 0;
        for (int day = from; day <= to; day++) {
            days += day >= p.from && (p.left == NONE || day < p.left) ? 1 : 0;
        }
        return days * places.get(p.place).wage / 30;
    }

    int fit(int servant, int place, int day) {
        Servant s = servants.get(servant);
        Place p = places.get(place);
        Book b = book(day);
        if ((s.skills & p.skills) != p.skills) {
            return 1;
        }
        if (s.age(day) < p.age || s.age(day) < b.number("age", p.post, 0)) {
            return 2;
        }
        if (p.church != NONE && p.church != s.church && b.last("bar", 0) == null) {
            return 3;
        }
        Said least = b.first("least", p.post, ask(servant, place, day));
        return least != null && p.wage < least.a ? 4 : 0;
    }

    int isFalse(int character, int by) {
        Written w = characters.get(character);
        int none = 0;
        int days = 0;
        for (int day = w.from; day <= w.to; day++) {
            int at = in(w.servant, day, by);
            if (at != NONE && houseOf(placings.get(at)) != w.house) {
                return day;
            }
            none += at == NONE ? 1 : 0;
            days++;
        }
        return none > days - none ? 1000 : NONE;
    }

    int habit(int house, int what) {
        int many = 0;
        int[] sums = new int[3];
        for (int c = 0; c < characters.size(); c++) {
            Written w = characters.get(c);
            Placing first = null;
            for (Placing p : placings) {
                boolean left = p.left != NONE && p.leftKnown <= today;
                if (p.servant == w.servant && known(p, today) && houseOf(p) != house
                        && p.from >= w.day && (left || p.from + 60 < today)
                        && (first == null || p.from < first.from)) {
                    first = p;
                }
            }
            if (w.house == house && first != null && isFalse(c, today) == NONE) {
                boolean left = first.left != NONE && first.leftKnown <= today;
                many++;
                sums[1] += w.mark;
                sums[2] += (left ? first.left : today) - first.from;
            }
        }
        if (what == 0) {
            return many;
        }
        boolean tellsNobody = many == 0 || many < book(today).number("habit", 0, 3);
        return tellsNobody ? NONE : sums[what] * 100 / many;
    }

    boolean mayPair(int s, int p) {
        return servantWishes.get(s).contains(p) && placeWishes.get(p).contains(s)
                && in(s, today, today) == NONE && holder(p, today, today) == NONE
                && fit(s, p, today) == 0;
    }

    /** The first pair that would leave a pairing, as judge() tells it. */
    int leaving(int[] pairing, boolean[][] may) {
        for (int s = 0; s < servants.size(); s++) {
            for (int p = 0; p < places.size(); p++) {
                if (!may[s][p] || pairing[s] == p) {
                    continue;
                }
                List<Integer> mine = servantWishes.get(s);
                boolean wants = pairing[s] == NONE || mine.indexOf(p) < mine.indexOf(pairing[s]);
                for (int o = 0; o < servants.size(); o++) {
                    List<Integer> its = placeWishes.get(p);
                    wants &= pairing[o] != p || its.indexOf(s) < its.indexOf(o);
                }
                if (wants) {
                    return 100 * s + p;
                }
            }
        }
        return NONE;
    }

    boolean[][] allPairs() {
        boolean[][] may = new boolean[servants.size()][places.size()];
        for (int s = 0; s < servants.size(); s++) {
            for (int p = 0; p < places.size(); p++) {
                may[s][p] = mayPair(s, p);
            }
        }
        return may;
    }

    int[] dealing() {
        int[] best = new int[servants.size()];
        java.util.Arrays.fill(best, NONE);
        tryPairings(new int[servants.size()], 0, best, allPairs());
        return best;
    }

    private void tryPairings(int[] pairing, int s, int[] best, boolean[][] may) {
        if (s == pairing.length) {
            if (leaving(pairing, may) == NONE) {
                for (int i = 0; i < s; i++) {
                    List<Integer> mine = servantWishes.get(i);
                    if (pairing[i] != NONE
                            && (best[i] == NONE || mine.indexOf(pairing[i]) < mine.indexOf(best[i]))) {
                        best[i] = pairing[i];
                    }
                }
            }
            return;
        }
        pairing[s] = NONE;
        tryPairings(pairing, s + 1, best, may);
        for (int p = 0; p < places.size(); p++) {
            boolean taken = false;
            for (int o = 0; o < s; o++) {
                taken |= pairing[o] == p;
            }
            if (may[s][p] && !taken) {
                pairing[s] = p;
                tryPairings(pairing, s + 1, best, may);
            }
        }
        pairing[s] = NONE;
    }

    int judge() {
        boolean[][] may = allPairs();
        int[] pairing = new int[servants.size()];
        for (int s = 0; s < servants.size(); s++) {
            pairing[s] = told.get(s);
            if (pairing[s] == NONE) {
                continue;
            }
            boolean wrong = !may[s][pairing[s]];
            for (int o = 0; o < s; o++) {
                wrong |= pairing[o] == pairing[s];
            }
            if (wrong) {
                return -2 - s;
            }
        }
        return leaving(pairing, may);
    }

    /** All ways along steps that come to no post twice are tried. */
    int steps(int servant, int post, int what) {
        int[] served = new int[6];
        for (int day = 0; day <= today; day++) {
            int at = in(servant, day, today);
            if (at != NONE) {
                served[places.get(placings.get(at).place).post]++;
            }
        }
        List<Said> ladder = new ArrayList<>();
        for (Said s : book(today).said) {
            if (s.kind.equals("step")) {
                ladder.add(s);
            }
        }
        int[] best = {NONE, NONE};
        for (int p = 0; p < 6; p++) {
            boolean may = served[p] > 0;
            for (Said s : ladder) {
                may |= s.a == p && served[s.who] >= s.b;
            }
            if (may) {
                climb(p, post, new int[] {0, 0, 1 << p}, served, ladder, best);
            }
        }
        return best[what];
    }

    private void climb(int at, int post, int[] way, int[] served, List<Said> ladder, int[] best) {
        if (at == post) {
            if (best[0] == NONE || way[0] < best[0] || way[0] == best[0] && way[1] < best[1]) {
                best[0] = way[0];
                best[1] = way[1];
            }
            return;
        }
        for (Said s : ladder) {
            if (s.who == at && (way[2] >> s.a & 1) == 0) {
                int lacking = Math.max(0, s.b - served[at]);
                climb(s.a, post, new int[] {way[0] + 1, way[1] + lacking, way[2] | 1 << s.a},
                        served, ladder, best);
            }
        }
    }

    /** The best giving: how many, days, and then the servants by places. */
    int[] chain() {
        int[] best = new int[2 + empties.size()];
        best[0] = NONE;
        give(new int[2 + empties.size()], 0, best);
        return best;
    }

    private void give(int[] row, int k, int[] best) {
        if (k == empties.size()) {
            if (isBetter(row, best)) {
                System.arraycopy(row, 0, best, 0, row.length);
            }
            return;
        }
        row[2 + k] = NONE;
        give(row, k + 1, best);
        for (int[] free : frees) {
            boolean given = false;
            for (int o = 0; o < k; o++) {
                given |= row[2 + o] == free[0];
            }
            if (!given && fit(free[0], empties.get(k)[0], today) == 0) {
                int days = Math.max(0, free[1] - empties.get(k)[1]);
                row[2 + k] = free[0];
                row[0]++;
                row[1] += days;
                give(row, k + 1, best);
                row[0]--;
                row[1] -= days;
            }
        }
        row[2 + k] = NONE;
    }

    private static boolean isBetter(int[] row, int[] best) {
        if (row[0] != best[0]) {
            return row[0] > best[0];
        }
        if (row[1] != best[1]) {
            return row[1] < best[1];
        }
        for (int k = 2; k < row.length; k++) {
            if (row[k] != best[k]) {
                return row[k] != NONE && (best[k] == NONE || row[k] < best[k]);
            }
        }
        return false;
    }

    int like(int ask, int k) {
        Asked a = asks.get(ask);
        List<Integer> alike = new ArrayList<>();
        for (int i = 0; i < asks.size(); i++) {
            Asked b = asks.get(i);
            Place p = places.get(a.place);
            Place q = places.get(b.place);
            Servant s = servants.get(a.servant);
            Servant t = servants.get(b.servant);
            int apart = Math.abs(s.age(a.day) - t.age(b.day));
            if (p.post == q.post && p.house == q.house && a.yes != b.yes && apart <= 5
                    && Integer.bitCount(s.skills) == Integer.bitCount(t.skills)
                    && (k != NONE || s.church != t.church)) {
                alike.add(i);
            }
        }
        int at = Math.max(k, 0);
        return at < alike.size() ? alike.get(at) : NONE;
    }

    int leftMore(int house) {
        int[] many = new int[2];
        int[] left = new int[2];
        for (Placing p : placings) {
            if (known(p, today)) {
                boolean soon = p.left != NONE && p.leftKnown <= today && p.left - p.from <= 60 && p.cause <= 2;
                many[1]++;
                left[1] += soon ? 1 : 0;
                many[0] += houseOf(p) == house ? 1 : 0;
                left[0] += soon && houseOf(p) == house ? 1 : 0;
            }
        }
        return many[0] >= 3 && left[0] * 100 / many[0] > 2 * (left[1] * 100 / many[1]) ? 1 : 0;
    }
}
