import java.util.ArrayList;
import java.util.List;
import java.util.Random;
import java.util.function.Predicate;

/** Many made runs of calls, answered by the class as by the plain model. */
public final class ModelTest {
    private static final int NONE = ServantRegistry.NONE;
    private static final String[] POSTS = {"kitchen", "house", "nurse", "cook", "coach", "butler"};
    private static final String[] WORDS = {"wage", "post", "town", "age", "skills", "day"};

    private final Random random;
    private final ServantRegistry r = new ServantRegistry();
    private final Model m = new Model();
    private final int most;
    private int calls = 0;

    private ModelTest(long seed) {
        random = new Random(seed);
        most = 2 + random.nextInt(5);
    }

    public static void main(String[] args) {
        for (int seed = 0; seed < 400; seed++) {
            new ModelTest(seed).run();
        }
        Check.end();
    }

    private void run() {
        for (int h = 0; h < 3; h++) {
            int town = random.nextInt(5);
            due("house", r.house(town), m.houses.size());
            m.houses.add(town);
        }
        while (calls < 420) {
            int what = random.nextInt(10);
            if (what == 0) {
                tellPeople();
            } else if (what <= 4) {
                tellPlacings();
            } else if (what == 5) {
                tellWishes();
            } else {
                askOne(random.nextInt(16));
            }
        }
    }

    private void due(String call, long got, long want) {
        calls++;
        Check.due(call, got, want);
    }

    private int below(int n) {
        return random.nextInt(Math.max(1, n));
    }

    private int upTo(int n) {
        return random.nextInt(n + 1);
    }

    private int aDay() {
        return random.nextInt(4) == 0 ? upTo(999) : upTo(Math.min(999, m.today + 30));
    }

    private void tellPeople() {
        switch (random.nextInt(6)) {
            case 0 -> addServant();
            case 1 -> addPlace();
            case 2 -> addRules();
            case 3 -> {
                int town = below(5);
                m.lag[town] = random.nextInt(3) == 0 ? 0 : below(31);
                due("lag", r.lag(town, m.lag[town]) ? 1 : 0, 1);
            }
            default -> {
                int to = m.today + 1 + below(12);
                if (to <= 999) {
                    due("day", r.day(to) ? 1 : 0, 1);
                    m.today = to;
                }
            }
        }
    }

    private void addServant() {
        if (m.servants.size() >= most) {
            return;
        }
        Model.Servant s = new Model.Servant(m.today - below(12000), below(256) | below(256), below(4));
        due("servant", r.servant(s.born(), s.skills(), s.church(), below(5)), m.servants.size());
        m.servants.add(s);
        m.servantWishes.add(new ArrayList<>());
        m.told.add(NONE);
    }

    private void addPlace() {
        if (m.places.size() >= most + 1) {
            return;
        }
        int church = random.nextInt(3) == 0 ? below(4) : NONE;
        Model.Place p = new Model.Place(below(3), below(6), 1 + below(999), below(256) & below(256) & below(256),
                below(20), church);
        due("place", r.place(p.house(), p.post(), p.wage(), p.skills(), p.age(), p.church()), m.places.size());
        m.places.add(p);
        m.placeWishes.add(new ArrayList<>());
    }

    private void addRules() {
        if (m.books.size() == 8) {
            return;
        }
        StringBuilder text = new StringBuilder();
        List<Model.Said> said = new ArrayList<>();
        for (int k = below(15); k > 0; k--) {
            addStatement(text, said);
        }
        if (text.length() <= 700) {
            due("rules of '" + text + "'", Check.rules(r, text.toString()), m.books.size());
            m.books.add(new Model.Book(m.today, said));
        }
    }

    private void addStatement(StringBuilder text, List<Model.Said> said) {
        Predicate<Model.Case> always = asked -> true;
        int post = below(6);
        int a = below(200);
        int b = below(100);
        switch (random.nextInt(11)) {
            case 0, 1 -> {
                int side = below(2);
                text.append("fee ").append(side == 0 ? "house " : "servant ").append(a).append(' ').append(b);
                said.add(new Model.Said("fee", side, a, b, addIf(text)));
            }
            case 2, 3 -> {
                text.append("least ").append(POSTS[post]).append(' ').append(4 * a);
                said.add(new Model.Said("least", post, 4 * a, 0, addIf(text)));
            }
            case 4 -> {
                text.append("notice ").append(b);
                said.add(new Model.Said("notice", 0, b, 0, always));
            }
            case 5 -> {
                text.append("back ").append(b).append(" within ").append(a / 4);
                said.add(new Model.Said("back", 0, b, a / 4, always));
            }
            case 6 -> {
                text.append("age ").append(POSTS[post]).append(' ').append(b / 4);
                said.add(new Model.Said("age", post, b / 4, 0, always));
            }
            case 7 -> {
                text.append("bar church");
                said.add(new Model.Said("bar", 0, 0, 0, always));
            }
            case 8, 9 -> {
                int to = below(6);
                text.append("step ").append(POSTS[post]).append(' ').append(POSTS[to]).append(" after ").append(b);
                said.add(new Model.Said("step", post, to, b, always));
            }
            default -> {
                text.append("habit ").append(b % 4);
                said.add(new Model.Said("habit", 0, b % 4, 0, always));
            }
        }
        text.append(';');
    }

    private Predicate<Model.Case> addIf(StringBuilder text) {
        if (random.nextInt(3) == 0) {
            return asked -> true;
        }
        text.append(" if ");
        return addAny(text, 0);
    }

    private Predicate<Model.Case> addAny(StringBuilder text, int depth) {
        Predicate<Model.Case> any = addAll(text, depth);
        while (random.nextInt(3) == 0) {
            text.append(" or ");
            any = any.or(addAll(text, depth));
        }
        return any;
    }

    private Predicate<Model.Case> addAll(StringBuilder text, int depth) {
        Predicate<Model.Case> all = addOne(text, depth);
        while (random.nextInt(3) == 0) {
            text.append(" and ");
            all = all.and(addOne(text, depth));
        }
        return all;
    }

    private Predicate<Model.Case> addOne(StringBuilder text, int depth) {
        int how = random.nextInt(6);
        if (how == 0 && depth < 10) {
            text.append("not ");
            return addOne(text, depth + 1).negate();
        }
        if (how == 1 && depth < 10) {
            text.append('(');
            Predicate<Model.Case> any = addAny(text, depth + 1);
            text.append(')');
            return any;
        }
        int word = below(6);
        int[] likely = {below(1000), below(6), below(5), below(34), below(9), aDay()};
        int than = likely[word];
        int sign = below(3);
        text.append(WORDS[word]).append("<>=".charAt(sign)).append(than);
        return asked -> {
            int[] all = {asked.wage(), asked.post(), asked.town(), asked.age(), asked.skills(), asked.day()};
            int has = all[word];
            return sign == 0 ? has < than : sign == 1 ? has > than : has == than;
        };
    }

    private void tellPlacings() {
        if (m.servants.isEmpty() || m.places.isEmpty()) {
            return;
        }
        int what = random.nextInt(8);
        if (what <= 2 && m.placings.size() < 60) {
            addPlacing();
        } else if (what <= 5 && !m.placings.isEmpty()) {
            leaveOne(below(m.placings.size()));
        } else if (what == 6 && !m.placings.isEmpty() && random.nextInt(3) == 0) {
            int placing = below(m.placings.size());
            Model.Placing p = m.placings.get(placing);
            due("undo", r.undo(placing) ? 1 : 0, p.undone == NONE ? 1 : 0);
            p.undone = p.undone == NONE ? m.today : p.undone;
        } else if (what == 7 && m.characters.size() < 60) {
            writeOne();
        }
    }

    private void addPlacing() {
        Model.Placing p = new Model.Placing();
        p.servant = below(m.servants.size());
        p.place = below(m.places.size());
        p.from = Math.max(0, m.today - below(random.nextBoolean() ? 10 : 120));
        p.known = m.today + m.lag[m.houses.get(m.houseOf(p))];
        due("placing", r.placing(p.servant, p.place, p.from), m.placings.size());
        m.placings.add(p);
    }

    private void leaveOne(int placing) {
        Model.Placing p = m.placings.get(placing);
        int day = p.from + below(m.today - p.from + 1);
        int notice = below(40);
        int cause = below(5);
        due("leave", r.leave(placing, day, notice, cause) ? 1 : 0, p.left == NONE ? 1 : 0);
        if (p.left == NONE) {
            p.left = day;
            p.leftKnown = m.today + m.lag[m.houses.get(m.houseOf(p))];
            p.notice = notice;
            p.cause = cause;
        }
    }

    /** Mostly of a service that was, so that some are true. */
    private void writeOne() {
        int from = below(m.today + 1);
        int to = from + below(m.today - from + 1);
        int house = below(3);
        int servant = below(m.servants.size());
        if (!m.placings.isEmpty() && random.nextInt(5) != 0) {
            Model.Placing p = m.placings.get(below(m.placings.size()));
            from = p.from;
            to = p.left == NONE ? from + below(m.today - from + 1) : p.left;
            house = m.houseOf(p);
            servant = p.servant;
        }
        int mark = below(10);
        due("write", r.write(house, servant, mark, from, to), m.characters.size());
        m.characters.add(new Model.Written(house, servant, mark, from, to, m.today));
    }

    private List<Integer> someOf(int many) {
        List<Integer> all = new ArrayList<>();
        for (int i = 0; i < many; i++) {
            all.add(i);
        }
        java.util.Collections.shuffle(all, random);
        return all.subList(0, Math.min(many, 1 + below(5)));
    }

    private static long row(List<Integer> numbers) {
        long row = 0;
        for (int number : numbers) {
            row = row * 32 + number + 1;
        }
        return row;
    }

    private void tellWishes() {
        if (m.servants.isEmpty() || m.places.isEmpty()) {
            return;
        }
        int s = below(m.servants.size());
        int p = below(m.places.size());
        switch (random.nextInt(6)) {
            case 0, 1 -> {
                m.servantWishes.set(s, someOf(m.places.size()));
                due("wish", r.wish(0, s, row(m.servantWishes.get(s))), m.servantWishes.get(s).size());
            }
            case 2, 3 -> {
                m.placeWishes.set(p, someOf(m.servants.size()));
                due("wish", r.wish(1, p, row(m.placeWishes.get(p))), m.placeWishes.get(p).size());
            }
            case 4 -> tellRow();
            default -> tellChain(s, p);
        }
    }

    /** The dealing itself, often with one of it changed. */
    private void tellRow() {
        int[] dealt = m.dealing();
        if (random.nextInt(3) != 0) {
            dealt[below(dealt.length)] = below(m.places.size() + 1) - 1;
        }
        for (int s = 0; s < dealt.length; s++) {
            due("tell", r.tell(s, dealt[s]) ? 1 : 0, 1);
            m.told.set(s, dealt[s]);
        }
        due("judge", r.judge(), m.judge());
    }

    private void tellChain(int s, int p) {
        if (random.nextInt(12) == 0) {
            due("clear", r.clear(), m.empties.size() + m.frees.size());
            m.empties.clear();
            m.frees.clear();
        }
        int day = below(20);
        if (m.empties.size() < 6 && m.empties.stream().noneMatch(e -> e[0] == p)) {
            m.empties.add(new int[] {p, day});
            due("empty", r.empty(p, day), m.empties.size());
        }
        if (m.frees.size() < 6 && m.frees.stream().noneMatch(e -> e[0] == s)) {
            m.frees.add(new int[] {s, day + 3});
            due("free", r.free(s, day + 3), m.frees.size());
        }
        int[] best = m.chain();
        due("chain(0)", r.chain(0), best[0]);
        due("chain(1)", r.chain(1), best[1]);
        for (int k = 0; k < m.empties.size(); k++) {
            due("chain(1" + k + ")", r.chain(10 + k), best[2 + k]);
        }
    }

    private void askOne(int which) {
        if (m.servants.isEmpty() || m.places.isEmpty()) {
            return;
        }
        int s = below(m.servants.size());
        int p = below(m.places.size());
        int day = aDay();
        int known = aDay();
        int what = below(2);
        int post = below(6);
        switch (which) {
            case 0 -> due("in", r.in(s, day, known), m.in(s, day, known));
            case 1 -> due("holder", r.holder(p, day, known), m.holder(p, day, known));
            case 2 -> due("twice", r.twice(s, known, what), m.twice(s, known, what));
            case 3, 4 -> askPlacing();
            case 5 -> due("fit", r.fit(s, p, day), m.fit(s, p, day));
            case 6, 7 -> askCharacter(known);
            case 8 -> {
                for (int h = 0; h < 9; h++) {
                    due("habit", r.habit(h / 3, h % 3), m.habit(h / 3, h % 3));
                }
            }
            case 9 -> due("dealt", r.dealt(s), m.dealing()[s]);
            case 10 -> due("judge", r.judge(), m.judge());
            case 11, 12 -> due("steps", r.steps(s, post, what), m.steps(s, post, what));
            case 13 -> due("leftMore", r.leftMore(what), m.leftMore(what));
            case 14 -> {
                boolean yes = random.nextBoolean();
                if (m.asks.size() < 60) {
                    due("ask", r.ask(s, p, yes), m.asks.size());
                    m.asks.add(new Model.Asked(s, p, yes, m.today));
                }
            }
            default -> {
                if (!m.asks.isEmpty()) {
                    int ask = below(m.asks.size());
                    int k = below(4) - 1;
                    due("like", r.like(ask, k), m.like(ask, k));
                }
            }
        }
    }

    private void askPlacing() {
        if (m.placings.isEmpty()) {
            return;
        }
        int placing = below(m.placings.size());
        int what = below(12);
        due("placed(" + what + ")", r.placed(placing, what), m.placed(placing, what));
        int from = aDay();
        int to = from + below(1000 - from);
        due("wages", r.wages(placing, from, to), m.wages(placing, from, to));
    }

    private void askCharacter(int known) {
        if (!m.characters.isEmpty()) {
            int character = below(m.characters.size());
            due("isFalse", r.isFalse(character, known), m.isFalse(character, known));
            due("isFalse today", r.isFalse(character, m.today), m.isFalse(character, m.today));
        }
    }
}
