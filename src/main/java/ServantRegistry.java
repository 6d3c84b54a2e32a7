import java.util.ArrayList;
import java.util.Arrays;

/** A registry for servants; DOC.md tells by numbered promises what each call answers. */
public final class ServantRegistry {
    public static final int NONE = -1;

    private static final int NONE_SUCH = -2_000_000_000;
    private static final int NOT_ON_TAPE = -2;
    private static final int RULES_FULL = -3;

    private static final int LAST_DAY = 999;
    private static final int AFTER_ALL_DAYS = LAST_DAY + 1;
    private static final int LAST_CHAIN_DAY = 1999;
    private static final int EARLIEST_BIRTH = -20_000;
    private static final int DAYS_OF_YEAR = 365;
    private static final int DAYS_OF_WAGE = 30;
    private static final int DAYS_OF_TRIAL = 60;

    private static final int TOWNS = 5;
    private static final int POSTS = 6;
    private static final int LAST_CHURCH = 3;
    private static final int ALL_SKILLS = 255;
    private static final int LAST_CAUSE = 4;
    private static final int CAUSE_WAGE = 0;
    private static final int CAUSE_HOUSE = 2;
    private static final int CAUSE_SICK = 4;

    private static final int MOST_LAG = 30;
    private static final int MOST_WAGE = 999;
    private static final int MOST_AGE = 99;
    private static final int MOST_NOTICE = 99;
    private static final int MOST_MARK = 9;
    private static final int MOST_WORTH = 9999;
    private static final int MOST_SERVANTS = 24;
    private static final int MOST_HOUSES = 12;
    private static final int MOST_PLACES = 30;
    private static final int MOST_PLACINGS = 60;
    private static final int MOST_TESTIMONIES = 60;
    private static final int MOST_ASKS = 60;
    private static final int MOST_BOXES = 30;
    private static final int MOST_RULES = 8;
    private static final int MOST_STATEMENTS = 30;
    private static final int MOST_CHAIN = 6;
    private static final int MOST_BYTES = 700;
    private static final int FEED_BYTES = 20;
    /** A long that isn't below 0 has twelve digits to the base 32 and three bits of another one. */
    private static final int MOST_WISHES = 13;
    private static final int AGES_ALIKE = 5;
    private static final int LEAST_PLACINGS = 3;

    private final int[] lags = new int[TOWNS];
    private final int[] houseTowns = new int[MOST_HOUSES];
    private final int[] wishDigits = new int[MOST_WISHES];
    private final int[] toldPlaces = new int[MOST_SERVANTS];
    private final ArrayList<Servant> servants = new ArrayList<>();
    private final ArrayList<Place> places = new ArrayList<>();
    private final ArrayList<Testimony> testimonies = new ArrayList<>();
    private final ArrayList<Ask> asks = new ArrayList<>();
    private final ArrayList<Rulebook> books = new ArrayList<>();
    private final Rulebook bare = new Rulebook(NONE, 0);
    private final RuleReader reader = new RuleReader();
    private final Ledger ledger = new Ledger();
    private final Dealing dealing = new Dealing();
    private final Chain vacancies = new Chain();
    private int today;
    private int houses;
    private int boxes;
    private int paid;

    public ServantRegistry() {
        Arrays.fill(toldPlaces, NONE);
    }

    public boolean day(int d) {
        if (d <= today || d > LAST_DAY) {
            return false;
        }
        today = d;
        return true;
    }

    /** The town is looked at and not kept: no promise asks for it again. */
    public int servant(int born, int skills, int church, int town) {
        boolean asTold = between(born, EARLIEST_BIRTH, today) && between(skills, 0, ALL_SKILLS)
                && between(church, 0, LAST_CHURCH) && between(town, 0, TOWNS - 1);
        if (!asTold || servants.size() >= MOST_SERVANTS) {
            return NONE;
        }
        servants.add(new Servant(servants.size(), born, skills, church));
        return servants.size() - 1;
    }

    public int house(int town) {
        if (!between(town, 0, TOWNS - 1) || houses >= MOST_HOUSES) {
            return NONE;
        }
        houseTowns[houses] = town;
        houses++;
        return houses - 1;
    }

    public boolean lag(int town, int days) {
        if (!between(town, 0, TOWNS - 1) || !between(days, 0, MOST_LAG)) {
            return false;
        }
        lags[town] = days;
        return true;
    }

    public int place(int house, int post, int wage, int skills, int age, int church) {
        boolean asTold = isHouse(house) && between(post, 0, POSTS - 1)
                && between(wage, 1, MOST_WAGE) && between(skills, 0, ALL_SKILLS)
                && between(age, 0, MOST_AGE) && between(church, NONE, LAST_CHURCH);
        if (!asTold || places.size() >= MOST_PLACES) {
            return NONE;
        }
        Place added = new Place(places.size(), house, houseTowns[house], post, wage);
        added.skills = skills;
        added.age = age;
        added.church = church;
        places.add(added);
        return added.number;
    }

    public int placing(int servant, int place, int from) {
        if (!isServant(servant) || !isPlace(place) || !between(from, 0, today)
                || ledger.placings.size() >= MOST_PLACINGS) {
            return NONE;
        }
        Place where = places.get(place);
        Placing added = new Placing(ledger.placings.size(), servants.get(servant), where, from);
        added.known = today + lags[where.town];
        ledger.placings.add(added);
        return added.number;
    }

    public boolean leave(int placing, int day, int notice, int cause) {
        if (!isPlacing(placing) || !between(notice, 0, MOST_NOTICE)
                || !between(cause, 0, LAST_CAUSE)) {
            return false;
        }
        Placing left = ledger.placings.get(placing);
        if (left.left != NONE || !between(day, left.from, today)) {
            return false;
        }
        left.left = day;
        left.leftKnown = today + lags[left.place.town];
        left.notice = notice;
        left.cause = cause;
        return true;
    }

    public boolean undo(int placing) {
        if (!isPlacing(placing) || ledger.placings.get(placing).undone != NONE) {
            return false;
        }
        ledger.placings.get(placing).undone = today;
        return true;
    }

    public int in(int servant, int day, int known) {
        if (!isServant(servant) || !isDay(day) || !isDay(known)) {
            return NONE;
        }
        Placing where = ledger.whereIn(servant, day, known);
        return where == null ? NONE : where.number;
    }

    public int holder(int place, int day, int known) {
        if (!isPlace(place) || !isDay(day) || !isDay(known)) {
            return NONE;
        }
        for (int s = 0; s < servants.size(); s++) {
            Placing where = ledger.whereIn(s, day, known);
            if (where != null && where.place.number == place) {
                return s;
            }
        }
        return NONE;
    }

    public int twice(int servant, int known, int what) {
        if (!isServant(servant) || !isDay(known) || !between(what, 0, 1)) {
            return NONE;
        }
        for (int i = 0; i < ledger.placings.size(); i++) {
            Placing first = ledger.placings.get(i);
            int other = first.servant.number == servant ? ledger.firstBeside(first, known) : NONE;
            if (other != NONE) {
                return what == 0 ? i : other;
            }
        }
        return NONE;
    }

    public int placed(int placing, int what) {
        if (!isPlacing(placing)) {
            return NONE_SUCH;
        }
        Placing asked = ledger.placings.get(placing);
        switch (what) {
            case 0: return asked.servant.number;
            case 1: return asked.place.number;
            case 2: return asked.from;
            case 3: return asked.left;
            case 4: return asked.cause;
            case 5: return asked.known;
            case 6: return asked.leftKnown;
            case 7: return asked.undone;
            case 8: return feeOf(asked, Rulebook.SIDE_HOUSE);
            case 9: return feeOf(asked, Rulebook.SIDE_SERVANT);
            case 10: return givenBack(asked);
            case 11: return owed(asked);
            default: return NONE_SUCH;
        }
    }

    public int wages(int placing, int from, int to) {
        if (!isPlacing(placing) || !isDay(from) || !isDay(to) || to < from) {
            return NONE;
        }
        Placing paidFor = ledger.placings.get(placing);
        int end = paidFor.left == NONE ? AFTER_ALL_DAYS : paidFor.left;
        int days = Math.min(to + 1, end) - Math.max(from, paidFor.from);
        return Math.max(0, days) * paidFor.place.wage / DAYS_OF_WAGE;
    }

    public int feed(int a, int b, int c, int d, int e) {
        if (reader.length + FEED_BYTES > MOST_BYTES) {
            return NONE;
        }
        reader.append(a);
        reader.append(b);
        reader.append(c);
        reader.append(d);
        reader.append(e);
        return reader.length;
    }

    public int rules(int n) {
        if (n < 0 || n > reader.length) {
            return NOT_ON_TAPE;
        }
        if (books.size() >= MOST_RULES) {
            return RULES_FULL;
        }
        Rulebook book = new Rulebook(books.size(), today);
        if (!reader.readInto(book, n)) {
            return NONE;
        }
        books.add(book);
        return book.number;
    }

    public int fault() {
        return reader.fault;
    }

    public int law(int day, int what) {
        if (!isDay(day)) {
            return NONE;
        }
        Rulebook book = bookOf(day);
        switch (what) {
            case 0: return book.notice;
            case 1: return book.back;
            case 2: return book.within;
            case 3: return book.boxPay;
            case 4: return book.habitLeast;
            case 5: return book.barsChurch ? 1 : 0;
            case 6: return book.statements.size();
            case 7: return book.number;
            default: return between(what, 10, 10 + POSTS - 1) ? book.ages[what - 10] : NONE;
        }
    }

    public int fit(int servant, int place, int day) {
        if (!isServant(servant) || !isPlace(place) || !isDay(day)) {
            return NONE;
        }
        return bookOf(day).unfitness(servants.get(servant), places.get(place), day);
    }

    public int write(int house, int servant, int mark, int from, int to) {
        boolean asTold = isHouse(house) && isServant(servant) && between(mark, 0, MOST_MARK)
                && between(from, 0, today) && between(to, from, today);
        if (!asTold || testimonies.size() >= MOST_TESTIMONIES) {
            return NONE;
        }
        Testimony added = new Testimony(house, servant, mark, today);
        added.from = from;
        added.to = to;
        testimonies.add(added);
        return testimonies.size() - 1;
    }

    public int written(int character, int what) {
        if (!between(character, 0, testimonies.size() - 1)) {
            return NONE;
        }
        Testimony asked = testimonies.get(character);
        switch (what) {
            case 0: return asked.house;
            case 1: return asked.servant;
            case 2: return asked.mark;
            case 3: return asked.day;
            default: return NONE;
        }
    }

    public int isFalse(int character, int known) {
        if (!between(character, 0, testimonies.size() - 1) || !isDay(known)) {
            return NONE;
        }
        return ledger.falsehood(testimonies.get(character), known);
    }

    public int habit(int house, int what) {
        if (!isHouse(house) || !between(what, 0, 2)) {
            return NONE;
        }
        int many = 0;
        int marks = 0;
        int stayed = 0;
        for (int i = 0; i < testimonies.size(); i++) {
            Testimony told = testimonies.get(i);
            Placing after = told.house == house ? ledger.provenBy(told, today) : null;
            if (after != null) {
                many++;
                marks += told.mark;
                stayed += Math.min(today, after.endAsKnown(today)) - after.from;
            }
        }
        if (what == 0) {
            return many;
        }
        // "habit 0" would tell of nobody at all, and there is no mean of none
        if (many == 0 || many < bookOf(today).habitLeast) {
            return NONE;
        }
        return (what == 1 ? marks : stayed) * 100 / many;
    }

    public int wish(int side, int of, long row) {
        boolean ofServant = side == 0 && isServant(of);
        boolean ofPlace = side == 1 && isPlace(of);
        if (!ofServant && !ofPlace) {
            return NONE;
        }
        int many = readWishes(row, ofServant ? places.size() : servants.size());
        if (many == NONE) {
            return NONE;
        }
        int[] wishes = Arrays.copyOf(wishDigits, many);
        if (ofServant) {
            servants.get(of).wishes = wishes;
        } else {
            places.get(of).wishes = wishes;
        }
        return many;
    }

    public int dealt(int servant) {
        if (!isServant(servant)) {
            return NONE;
        }
        preparePairs();
        dealing.pair();
        return dealing.placeOf[servant];
    }

    public boolean tell(int servant, int place) {
        if (!isServant(servant) || place != NONE && !isPlace(place)) {
            return false;
        }
        toldPlaces[servant] = place;
        return true;
    }

    public int judge() {
        preparePairs();
        int wrong = dealing.firstWronglyTold(toldPlaces);
        return wrong == NONE ? dealing.firstLeaving() : -2 - wrong;
    }

    public int steps(int servant, int post, int what) {
        if (!isServant(servant) || !between(post, 0, POSTS - 1) || !between(what, 0, 1)) {
            return NONE;
        }
        ledger.tallyServed(servant, today);
        int way = bookOf(today).wayTo(post, ledger.served);
        if (way == Rulebook.NO_WAY) {
            return NONE;
        }
        return what == 0 ? way / Rulebook.ONE_STEP : way % Rulebook.ONE_STEP;
    }

    public int clear() {
        int were = vacancies.placeCount + vacancies.servantCount;
        vacancies.placeCount = 0;
        vacancies.servantCount = 0;
        return were;
    }

    public int empty(int place, int day) {
        if (!isPlace(place) || !between(day, 0, LAST_CHAIN_DAY)) {
            return NONE;
        }
        return vacancies.addPlace(places.get(place), day);
    }

    public int free(int servant, int day) {
        if (!isServant(servant) || !between(day, 0, LAST_CHAIN_DAY)) {
            return NONE;
        }
        return vacancies.addServant(servants.get(servant), day);
    }

    public int chain(int what) {
        int k = what - 10;
        if (!between(what, 0, 1) && !between(k, 0, vacancies.placeCount - 1)) {
            return NONE;
        }
        vacancies.fill(bookOf(today), today);
        if (what == 0) {
            return vacancies.givenCount;
        }
        return what == 1 ? vacancies.emptyDays : vacancies.given[k];
    }

    public int ask(int servant, int place, boolean yes) {
        if (!isServant(servant) || !isPlace(place) || asks.size() >= MOST_ASKS) {
            return NONE;
        }
        asks.add(new Ask(servants.get(servant), places.get(place), today, yes));
        return asks.size() - 1;
    }

    public int like(int ask, int k) {
        if (!between(ask, 0, asks.size() - 1) || k < NONE) {
            return NONE;
        }
        Ask asked = asks.get(ask);
        int seen = 0;
        for (int i = 0; i < asks.size(); i++) {
            Ask other = asks.get(i);
            if (asked.isAnsweredUnlike(other)) {
                boolean meant = k == NONE ? other.servant.church != asked.servant.church : seen == k;
                if (meant) {
                    return i;
                }
                seen++;
            }
        }
        return NONE;
    }

    public int box(int placing, int worth) {
        if (!isPlacing(placing) || !between(worth, 1, MOST_WORTH) || boxes >= MOST_BOXES
                || ledger.placings.get(placing).boxTold) {
            return NONE;
        }
        int pay = Math.min(worth, bookOf(today).boxPay);
        ledger.placings.get(placing).boxTold = true;
        boxes++;
        paid += pay;
        return pay;
    }

    public int leftMore(int house) {
        if (!isHouse(house)) {
            return NONE;
        }
        if (ledger.knownOf(house, today) < LEAST_PLACINGS) {
            return 0;
        }
        return ledger.hundredthsLeft(house, today) > 2 * ledger.hundredthsLeft(NONE, today) ? 1 : 0;
    }

    public int count(int what) {
        switch (what) {
            case 0: return today;
            case 1: return servants.size();
            case 2: return houses;
            case 3: return places.size();
            case 4: return ledger.placings.size();
            case 5: return ledger.leftCount();
            case 6: return ledger.undoneCount();
            case 7: return books.size();
            case 8: return testimonies.size();
            case 9: return asks.size();
            case 10: return boxes;
            case 11: return paid;
            case 12: return reader.length;
            default: return NONE;
        }
    }

    private static boolean between(int number, int least, int most) {
        return number >= least && number <= most;
    }

    private static boolean isDay(int day) {
        return between(day, 0, LAST_DAY);
    }

    private boolean isServant(int number) {
        return between(number, 0, servants.size() - 1);
    }

    private boolean isHouse(int number) {
        return between(number, 0, houses - 1);
    }

    private boolean isPlace(int number) {
        return between(number, 0, places.size() - 1);
    }

    private boolean isPlacing(int number) {
        return between(number, 0, ledger.placings.size() - 1);
    }

    private Rulebook bookOf(int day) {
        for (int i = books.size() - 1; i >= 0; i--) {
            if (books.get(i).day <= day) {
                return books.get(i);
            }
        }
        return bare;
    }

    private int feeOf(Placing asked, int side) {
        return bookOf(asked.from).fee(side, asked.servant, asked.place, asked.from);
    }

    private int givenBack(Placing asked) {
        Rulebook book = bookOf(asked.from);
        if (asked.left == NONE || asked.left - asked.from > book.within) {
            return 0;
        }
        return feeOf(asked, Rulebook.SIDE_HOUSE) * book.back / 100;
    }

    private int owed(Placing asked) {
        if (asked.left == NONE || asked.cause == CAUSE_WAGE || asked.cause == CAUSE_SICK) {
            return 0;
        }
        int lacking = Math.max(0, bookOf(asked.left).notice - asked.notice);
        return -(asked.place.wage * lacking / DAYS_OF_WAGE);
    }

    /** Puts the row's numbers into wishDigits: how many; NONE if the row isn't as told. */
    private int readWishes(long row, int others) {
        if (row < 0) {
            return NONE;
        }
        int many = 0;
        long seen = 0;
        for (int i = MOST_WISHES - 1; i >= 0; i--) {
            int digit = (int) (row >>> (5 * i)) & 31;
            if (digit == 0 && many == 0) {
                continue;
            }
            if (digit == 0 || digit > others || (seen >>> digit & 1) != 0) {
                return NONE;
            }
            seen |= 1L << digit;
            wishDigits[many] = digit - 1;
            many++;
        }
        return many;
    }

    /** Only empty places and servants that are in none take part, as it's known today. */
    private void preparePairs() {
        Rulebook book = bookOf(today);
        dealing.forgetPairs();
        for (int s = 0; s < servants.size(); s++) {
            Placing where = ledger.whereIn(s, today, today);
            if (where != null) {
                dealing.fillPlace(where.place);
            }
        }
        for (int s = 0; s < servants.size(); s++) {
            if (ledger.whereIn(s, today, today) == null) {
                Servant servant = servants.get(s);
                for (int i = 0; i < servant.wishes.length; i++) {
                    dealing.allow(servant, places.get(servant.wishes[i]), book, today);
                }
            }
        }
    }

    /** Where a number stands in a row of wishes; NONE: it isn't wished. */
    private static int rank(int[] wishes, int number) {
        for (int i = 0; i < wishes.length; i++) {
            if (wishes[i] == number) {
                return i;
            }
        }
        return NONE;
    }

    private static final class Servant {
        final int number;
        final int born;
        final int skills;
        final int church;
        int[] wishes = new int[0];

        Servant(int number, int born, int skills, int church) {
            this.number = number;
            this.born = born;
            this.skills = skills;
            this.church = church;
        }

        int ageOn(int day) {
            return Math.max(0, day - born) / DAYS_OF_YEAR;
        }
    }

    private static final class Place {
        final int number;
        final int house;
        final int town;
        final int post;
        final int wage;
        int skills;
        int age;
        int church = NONE;
        int[] wishes = new int[0];

        Place(int number, int house, int town, int post, int wage) {
            this.number = number;
            this.house = house;
            this.town = town;
            this.post = post;
            this.wage = wage;
        }
    }

    private static final class Placing {
        final int number;
        final Servant servant;
        final Place place;
        final int from;
        int known;
        int left = NONE;
        int leftKnown = NONE;
        int notice;
        int cause = NONE;
        int undone = NONE;
        boolean boxTold;

        Placing(int number, Servant servant, Place place, int from) {
            this.number = number;
            this.servant = servant;
            this.place = place;
            this.from = from;
        }

        boolean isKnownBy(int day) {
            return known <= day && (undone == NONE || day < undone);
        }

        boolean isKnownLeftBy(int day) {
            return left != NONE && leftKnown <= day;
        }

        /** The first day on which it's no longer on, as far as is known. */
        int endAsKnown(int by) {
            return isKnownLeftBy(by) ? left : AFTER_ALL_DAYS;
        }

        boolean sharesDayWith(Placing other, int by) {
            int start = Math.max(from, other.from);
            return start < endAsKnown(by) && start < other.endAsKnown(by);
        }

        boolean isLeftSoonForFault(int by) {
            return isKnownLeftBy(by) && left - from <= DAYS_OF_TRIAL && cause <= CAUSE_HOUSE;
        }
    }

    /** All placings, and what is known of them by a day. */
    private static final class Ledger {
        static final int TOO_LONG_IN_NONE = 1000;

        final ArrayList<Placing> placings = new ArrayList<>();
        final int[] served = new int[POSTS];

        Placing whereIn(int servant, int day, int by) {
            Placing latest = null;
            for (int i = 0; i < placings.size(); i++) {
                Placing p = placings.get(i);
                if (p.servant.number == servant && p.isKnownBy(by)
                        && p.from <= day && day < p.endAsKnown(by)
                        && (latest == null || p.from >= latest.from)) {
                    latest = p;
                }
            }
            return latest;
        }

        /** Till this later day whereIn() answers the same: days needn't be gone through singly. */
        int nextChange(int servant, int day, int by) {
            int next = AFTER_ALL_DAYS;
            for (int i = 0; i < placings.size(); i++) {
                Placing p = placings.get(i);
                if (p.servant.number == servant && p.isKnownBy(by)) {
                    int end = p.endAsKnown(by);
                    next = p.from > day ? Math.min(next, p.from) : next;
                    next = end > day ? Math.min(next, end) : next;
                }
            }
            return next;
        }

        /** The first later placing of the same servant that is on with this one on some day. */
        int firstBeside(Placing first, int by) {
            if (!first.isKnownBy(by)) {
                return NONE;
            }
            for (int j = first.number + 1; j < placings.size(); j++) {
                Placing other = placings.get(j);
                if (other.servant.number == first.servant.number && other.isKnownBy(by)
                        && first.sharesDayWith(other, by)) {
                    return j;
                }
            }
            return NONE;
        }

        void tallyServed(int servant, int today) {
            Arrays.fill(served, 0);
            int day = 0;
            while (day <= today) {
                int next = Math.max(day + 1, Math.min(today + 1, nextChange(servant, day, today)));
                Placing where = whereIn(servant, day, today);
                if (where != null) {
                    served[where.place.post] += next - day;
                }
                day = next;
            }
        }

        /** The first day elsewhere, TOO_LONG_IN_NONE, or NONE if nothing is known against it. */
        int falsehood(Testimony told, int by) {
            int inNone = 0;
            int day = told.from;
            while (day <= told.to) {
                int next = Math.max(day + 1, Math.min(told.to + 1, nextChange(told.servant, day, by)));
                Placing where = whereIn(told.servant, day, by);
                if (where == null) {
                    inNone += next - day;
                } else if (where.place.house != told.house) {
                    return day;
                }
                day = next;
            }
            return 2 * inNone > told.to + 1 - told.from ? TOO_LONG_IN_NONE : NONE;
        }

        /** The placing that shows how long the servant stayed elsewhere; null if there is none. */
        Placing provenBy(Testimony told, int today) {
            Placing first = null;
            for (int i = 0; i < placings.size(); i++) {
                Placing p = placings.get(i);
                boolean behind = p.servant.number == told.servant && p.place.house != told.house
                        && p.from >= told.day && p.isKnownBy(today);
                boolean tried = p.isKnownLeftBy(today) || today - p.from > DAYS_OF_TRIAL;
                if (behind && tried && (first == null || p.from < first.from)) {
                    first = p;
                }
            }
            return first != null && falsehood(told, today) == NONE ? first : null;
        }

        int knownOf(int house, int by) {
            int many = 0;
            for (int i = 0; i < placings.size(); i++) {
                Placing p = placings.get(i);
                if (p.isKnownBy(by) && (house == NONE || p.place.house == house)) {
                    many++;
                }
            }
            return many;
        }

        /** Of a house, or of all houses (NONE). */
        int hundredthsLeft(int house, int by) {
            int many = knownOf(house, by);
            int left = 0;
            for (int i = 0; i < placings.size(); i++) {
                Placing p = placings.get(i);
                if (p.isKnownBy(by) && (house == NONE || p.place.house == house)
                        && p.isLeftSoonForFault(by)) {
                    left++;
                }
            }
            return many == 0 ? 0 : left * 100 / many;
        }

        int leftCount() {
            int many = 0;
            for (int i = 0; i < placings.size(); i++) {
                many += placings.get(i).left == NONE ? 0 : 1;
            }
            return many;
        }

        int undoneCount() {
            int many = 0;
            for (int i = 0; i < placings.size(); i++) {
                many += placings.get(i).undone == NONE ? 0 : 1;
            }
            return many;
        }
    }

    /** A servant's character as a house wrote it. */
    private static final class Testimony {
        final int house;
        final int servant;
        final int mark;
        final int day;
        int from;
        int to;

        Testimony(int house, int servant, int mark, int day) {
            this.house = house;
            this.servant = servant;
            this.mark = mark;
            this.day = day;
        }
    }

    private static final class Ask {
        final Servant servant;
        final Place place;
        final int age;
        final boolean yes;

        Ask(Servant servant, Place place, int day, boolean yes) {
            this.servant = servant;
            this.place = place;
            this.age = servant.ageOn(day);
            this.yes = yes;
        }

        boolean isAnsweredUnlike(Ask other) {
            return place.post == other.place.post && place.house == other.place.house
                    && Integer.bitCount(servant.skills) == Integer.bitCount(other.servant.skills)
                    && Math.abs(age - other.age) <= AGES_ALIKE && yes != other.yes;
        }
    }

    private static final class Statement {
        final int kind;
        /** The side of a fee, or the post that is spoken of. */
        int of;
        /** The post to which a step leads. */
        int to;
        int amount;
        int hundredths;
        /** What must hold, with the signs behind what they join; null: nothing. */
        int[] condition;

        Statement(int kind) {
            this.kind = kind;
        }
    }

    /** One taken text of rules. */
    private static final class Rulebook {
        static final int FEE = 0;
        static final int NOTICE = 1;
        static final int BACK = 2;
        static final int AGE = 3;
        static final int LEAST = 4;
        static final int BAR = 5;
        static final int STEP = 6;
        static final int BOX = 7;
        static final int HABIT = 8;

        static final int SIDE_HOUSE = 0;
        static final int SIDE_SERVANT = 1;

        static final int NOT = -1;
        static final int AND = -2;
        static final int OR = -3;
        /** A comparison is its fact, its sign and its number in one int. */
        static final int NUMBERS = 10_000;
        static final int SIGNS = 3;
        static final int FACTS = 6;

        /** A way is its steps times this and its days: the least way has the fewest steps first. */
        static final int ONE_STEP = 1_000_000;
        static final int NO_WAY = 1000 * ONE_STEP;

        final int number;
        final int day;
        final ArrayList<Statement> statements = new ArrayList<>();
        final int[] ages = new int[POSTS];
        private final int[] facts = new int[FACTS];
        private final int[] ways = new int[POSTS];
        int notice = 30;
        int back;
        int within;
        int boxPay;
        int habitLeast = 3;
        boolean barsChurch;

        Rulebook(int number, int day) {
            this.number = number;
            this.day = day;
        }

        void add(Statement said) {
            statements.add(said);
            switch (said.kind) {
                case NOTICE:
                    notice = said.amount;
                    break;
                case BACK:
                    back = said.hundredths;
                    within = said.amount;
                    break;
                case AGE:
                    ages[said.of] = said.amount;
                    break;
                case BAR:
                    barsChurch = true;
                    break;
                case BOX:
                    boxPay = said.amount;
                    break;
                case HABIT:
                    habitLeast = said.amount;
                    break;
                default:
                    break;
            }
        }

        int fee(int side, Servant servant, Place place, int on) {
            Statement holding = firstHolding(FEE, side, servant, place, on);
            return holding == null ? 0 : holding.amount + place.wage * holding.hundredths / 100;
        }

        /** 0: the servant fits; else the number of the first reason why not. */
        int unfitness(Servant servant, Place place, int on) {
            if ((place.skills & ~servant.skills) != 0) {
                return 1;
            }
            if (servant.ageOn(on) < Math.max(place.age, ages[place.post])) {
                return 2;
            }
            if (place.church != NONE && place.church != servant.church && !barsChurch) {
                return 3;
            }
            Statement least = firstHolding(LEAST, place.post, servant, place, on);
            return least != null && place.wage < least.amount ? 4 : 0;
        }

        /** The least way to a post from any that may be taken by the days served in posts. */
        int wayTo(int post, int[] served) {
            for (int p = 0; p < POSTS; p++) {
                ways[p] = served[p] > 0 ? 0 : NO_WAY;
            }
            // a way that comes back to a post isn't the least: one round a post is enough, and one
            // more for what may be taken at once
            for (int round = 0; round <= POSTS; round++) {
                for (int i = 0; i < statements.size(); i++) {
                    Statement step = statements.get(i);
                    if (step.kind == STEP) {
                        ways[step.to] = Math.min(ways[step.to], wayBy(step, served));
                    }
                }
            }
            return ways[post];
        }

        private int wayBy(Statement step, int[] served) {
            int lacking = step.amount - served[step.of];
            if (lacking <= 0) {
                return 0;
            }
            return ways[step.of] == NO_WAY ? NO_WAY : ways[step.of] + ONE_STEP + lacking;
        }

        private Statement firstHolding(int kind, int of, Servant servant, Place place, int on) {
            facts[0] = place.wage;
            facts[1] = place.post;
            facts[2] = place.town;
            facts[3] = servant.ageOn(on);
            facts[4] = Integer.bitCount(servant.skills);
            facts[5] = on;
            for (int i = 0; i < statements.size(); i++) {
                Statement said = statements.get(i);
                if (said.kind == kind && said.of == of
                        && (said.condition == null || holds(said.condition))) {
                    return said;
                }
            }
            return null;
        }

        /** What is still open stands in the bits of a long: ten levels never keep more than 23. */
        private boolean holds(int[] condition) {
            long open = 0;
            for (int i = 0; i < condition.length; i++) {
                int code = condition[i];
                if (code == NOT) {
                    open ^= 1;
                } else if (code == AND) {
                    open = open >>> 1 & (open | ~1L);
                } else if (code == OR) {
                    open = open >>> 1 | open & 1;
                } else {
                    open = open << 1 | (compares(code) ? 1 : 0);
                }
            }
            return (open & 1) != 0;
        }

        private boolean compares(int code) {
            int asked = facts[code / NUMBERS / SIGNS % FACTS];
            int than = code % NUMBERS;
            int sign = code / NUMBERS % SIGNS;
            if (sign == 0) {
                return asked < than;
            }
            return sign == 1 ? asked > than : asked == than;
        }
    }

    /** The tape, and how a text on it is read. */
    private static final class RuleReader {
        private static final String KINDS = "fee notice back age least bar step box habit";
        private static final String SIDES = "house servant";
        private static final String POST_WORDS = "kitchen house nurse cook coach butler";
        private static final String FACT_WORDS = "wage post town age skills day";
        private static final String COMPARISONS = "<>=";
        private static final int MOST_NUMBER = 9999;
        private static final int MOST_DIGITS = 4;
        private static final int MOST_FEE_HUNDREDTHS = 300;
        private static final int MOST_BACK_HUNDREDTHS = 100;
        private static final int MOST_OPEN = 10;

        private static final int END = 0;
        private static final int WORD = 1;
        private static final int DIGITS = 2;
        private static final int SIGN = 3;
        private static final int STRANGE = 4;

        private final byte[] tape = new byte[MOST_BYTES];
        private final int[] codes = new int[MOST_BYTES];
        int length;
        int fault = NONE;
        private int textEnd;
        private int codeCount;
        private int token;
        private int tokenStart;
        private int tokenEnd;

        void append(int four) {
            for (int shift = 24; shift >= 0 && length < MOST_BYTES; shift -= 8) {
                tape[length] = (byte) (four >>> shift);
                length++;
            }
        }

        /** Whether the first n bytes are a text of rules; if not, fault tells where. */
        boolean readInto(Rulebook book, int n) {
            textEnd = Math.max(0, Math.min(n, length));
            length = 0;
            fault = NONE;
            tokenEnd = 0;
            advance();
            for (int i = 0; i <= MOST_STATEMENTS && token != END && fault == NONE; i++) {
                if (i == MOST_STATEMENTS) {
                    fault = tokenStart;
                } else {
                    readStatement(book);
                }
            }
            return fault == NONE;
        }

        private void readStatement(Rulebook book) {
            Statement said = new Statement(takeWord(KINDS));
            switch (said.kind) {
                case Rulebook.FEE:
                    said.of = takeWord(SIDES);
                    said.amount = takeNumber(MOST_NUMBER);
                    said.hundredths = takeNumber(MOST_FEE_HUNDREDTHS);
                    break;
                case Rulebook.BACK:
                    said.hundredths = takeNumber(MOST_BACK_HUNDREDTHS);
                    takeWord("within");
                    said.amount = takeNumber(MOST_NUMBER);
                    break;
                case Rulebook.AGE:
                case Rulebook.LEAST:
                    said.of = takeWord(POST_WORDS);
                    said.amount = takeNumber(MOST_NUMBER);
                    break;
                case Rulebook.BAR:
                    takeWord("church");
                    break;
                case Rulebook.STEP:
                    said.of = takeWord(POST_WORDS);
                    said.to = takeWord(POST_WORDS);
                    takeWord("after");
                    said.amount = takeNumber(MOST_NUMBER);
                    break;
                default:
                    said.amount = takeNumber(MOST_NUMBER);
                    break;
            }
            boolean mayHaveIf = said.kind == Rulebook.FEE || said.kind == Rulebook.LEAST;
            if (mayHaveIf && fault == NONE && isWord("if")) {
                advance();
                codeCount = 0;
                readAny(0);
                said.condition = Arrays.copyOf(codes, codeCount);
            }
            takeSign(';');
            if (fault == NONE) {
                book.add(said);
            }
        }

        /** "and" joins at once; an "or" waits till what stands behind it has been joined. */
        private void readAny(int open) {
            readOne(open);
            boolean orWaits = false;
            for (int i = 0; i < MOST_BYTES && fault == NONE; i++) {
                boolean and = isWord("and");
                if (!and && !isWord("or")) {
                    break;
                }
                if (!and && orWaits) {
                    emit(Rulebook.OR);
                }
                advance();
                readOne(open);
                if (and) {
                    emit(Rulebook.AND);
                } else {
                    orWaits = true;
                }
            }
            if (orWaits) {
                emit(Rulebook.OR);
            }
        }

        private void readOne(int open) {
            boolean not = isWord("not");
            boolean opens = not || isSign('(');
            if (opens && open >= MOST_OPEN) {
                refuse();
            } else if (not) {
                advance();
                readOne(open + 1);
                emit(Rulebook.NOT);
            } else if (opens) {
                advance();
                readAny(open + 1);
                takeSign(')');
            } else {
                int fact = takeWord(FACT_WORDS);
                int sign = takeComparison();
                int number = takeNumber(MOST_NUMBER);
                emit((fact * Rulebook.SIGNS + sign) * Rulebook.NUMBERS + number);
            }
        }

        private void emit(int code) {
            if (fault == NONE && codeCount < codes.length) {
                codes[codeCount] = code;
                codeCount++;
            }
        }

        /** Behind the first fault nothing is taken any more, so that its place stands. */
        private void refuse() {
            if (fault == NONE) {
                fault = tokenStart;
            }
        }

        private int takeWord(String list) {
            int index = fault == NONE && token == WORD ? indexIn(list) : NONE;
            if (index == NONE) {
                refuse();
            } else {
                advance();
            }
            return index;
        }

        private int takeNumber(int most) {
            int number = 0;
            if (fault == NONE && token == DIGITS && tokenEnd - tokenStart <= MOST_DIGITS) {
                for (int i = tokenStart; i < tokenEnd; i++) {
                    number = number * 10 + tape[i] - '0';
                }
                if (number <= most) {
                    advance();
                    return number;
                }
            }
            refuse();
            return NONE;
        }

        private int takeComparison() {
            int sign = fault == NONE && token == SIGN
                    ? COMPARISONS.indexOf((char) (tape[tokenStart] & 255)) : NONE;
            if (sign < 0) {
                refuse();
            } else {
                advance();
            }
            return sign;
        }

        private void takeSign(char sign) {
            if (fault == NONE && isSign(sign)) {
                advance();
            } else {
                refuse();
            }
        }

        private boolean isSign(char sign) {
            return token == SIGN && tape[tokenStart] == sign;
        }

        private boolean isWord(String word) {
            return token == WORD && indexIn(word) == 0;
        }

        /** Which word of a list with blanks between them the token is. */
        private int indexIn(String list) {
            int index = 0;
            int at = tokenStart;
            boolean same = true;
            for (int i = 0; i <= list.length(); i++) {
                char c = i < list.length() ? list.charAt(i) : ' ';
                if (c != ' ') {
                    same = same && at < tokenEnd && tape[at] == c;
                    at++;
                } else if (same && at == tokenEnd) {
                    return index;
                } else {
                    index++;
                    at = tokenStart;
                    same = true;
                }
            }
            return NONE;
        }

        private void advance() {
            int at = tokenEnd;
            while (at < textEnd && (tape[at] == ' ' || tape[at] == '\n')) {
                at++;
            }
            tokenStart = at;
            token = at < textEnd ? tokenAt(at) : END;
            while (at < textEnd && (at == tokenStart || token <= DIGITS && tokenAt(at) == token)) {
                at++;
            }
            tokenEnd = at;
        }

        private int tokenAt(int at) {
            int c = tape[at] & 255;
            if (c >= 'a' && c <= 'z') {
                return WORD;
            }
            if (c >= '0' && c <= '9') {
                return DIGITS;
            }
            boolean compares = c == '<' || c == '>' || c == '=';
            return compares || c == '(' || c == ')' || c == ';' ? SIGN : STRANGE;
        }
    }

    /** The pairs of servants and places that may be dealt to one another, and a pairing of them. */
    private static final class Dealing {
        /** Of each servant the places that it may get, the best first. */
        private final int[] rows = new int[MOST_SERVANTS * MOST_WISHES];
        private final int[] rowLengths = new int[MOST_SERVANTS];
        /** By servant and place how each likes the other, less is better; NONE: no such pair. */
        private final int[] servantLikes = new int[MOST_SERVANTS * MOST_PLACES];
        private final int[] placeLikes = new int[MOST_SERVANTS * MOST_PLACES];
        private final int[] filled = new int[MOST_PLACES];
        private final int[] servantOf = new int[MOST_PLACES];
        private final int[] tried = new int[MOST_SERVANTS];
        final int[] placeOf = new int[MOST_SERVANTS];

        void forgetPairs() {
            Arrays.fill(rowLengths, 0);
            Arrays.fill(servantLikes, NONE);
            Arrays.fill(placeLikes, NONE);
            Arrays.fill(filled, 0);
        }

        void fillPlace(Place place) {
            filled[place.number] = 1;
        }

        /** A servant's pairs come by its wishes, the best first. */
        void allow(Servant servant, Place place, Rulebook book, int today) {
            int likes = rank(place.wishes, servant.number);
            int length = rowLengths[servant.number];
            if (likes == NONE || filled[place.number] != 0 || length >= MOST_WISHES
                    || book.unfitness(servant, place, today) != 0) {
                return;
            }
            rows[servant.number * MOST_WISHES + length] = place.number;
            rowLengths[servant.number] = length + 1;
            servantLikes[pairOf(servant.number, place.number)] = length;
            placeLikes[pairOf(servant.number, place.number)] = likes;
        }

        private static int pairOf(int servant, int place) {
            return servant * MOST_PLACES + place;
        }

        private void forgetPairing() {
            Arrays.fill(placeOf, NONE);
            Arrays.fill(servantOf, NONE);
        }

        /** Servants offer themselves by their wishes, so that the pairing is the best for them. */
        void pair() {
            forgetPairing();
            Arrays.fill(tried, 0);
            boolean offered = true;
            for (int round = 0; offered && round <= MOST_SERVANTS * MOST_WISHES; round++) {
                offered = false;
                for (int s = 0; s < MOST_SERVANTS; s++) {
                    if (placeOf[s] == NONE && tried[s] < rowLengths[s]) {
                        offer(s, rows[s * MOST_WISHES + tried[s]]);
                        tried[s]++;
                        offered = true;
                    }
                }
            }
        }

        private void offer(int servant, int place) {
            if (!placeLikesBetter(place, servant)) {
                return;
            }
            if (servantOf[place] != NONE) {
                placeOf[servantOf[place]] = NONE;
            }
            servantOf[place] = servant;
            placeOf[servant] = place;
        }

        private boolean placeLikesBetter(int place, int servant) {
            int has = servantOf[place];
            return has == NONE || placeLikes[pairOf(servant, place)] < placeLikes[pairOf(has, place)];
        }

        private boolean servantLikesBetter(int servant, int place) {
            int has = placeOf[servant];
            return has == NONE
                    || servantLikes[pairOf(servant, place)] < servantLikes[pairOf(servant, has)];
        }

        /** Takes a told row as the pairing: the first servant that may not have its place. */
        int firstWronglyTold(int[] told) {
            forgetPairing();
            for (int s = 0; s < MOST_SERVANTS; s++) {
                int place = told[s];
                if (place != NONE) {
                    if (servantLikes[pairOf(s, place)] == NONE || servantOf[place] != NONE) {
                        return s;
                    }
                    placeOf[s] = place;
                    servantOf[place] = s;
                }
            }
            return NONE;
        }

        /** 100 times the servant and the place of the first pair that would leave the pairing. */
        int firstLeaving() {
            for (int s = 0; s < MOST_SERVANTS; s++) {
                for (int p = 0; p < MOST_PLACES; p++) {
                    if (servantLikes[pairOf(s, p)] != NONE && servantLikesBetter(s, p)
                            && placeLikesBetter(p, s)) {
                        return 100 * s + p;
                    }
                }
            }
            return NONE;
        }
    }

    /** Empty places and servants that get free, and how they are best given to one another. */
    private static final class Chain {
        /** More than all empty days can come to, so that one place more is always better. */
        private static final int ONE_GIVEN = 20_000;
        private static final int MASKS = 1 << MOST_CHAIN;

        private final Place[] places = new Place[MOST_CHAIN];
        private final int[] emptyFrom = new int[MOST_CHAIN];
        /** By their numbers, so that the least row is found by trying them in turn. */
        private final Servant[] servants = new Servant[MOST_CHAIN];
        private final int[] freeFrom = new int[MOST_CHAIN];
        private final int[] days = new int[MOST_CHAIN * MOST_CHAIN];
        /** The best worth of the places from the k-th on, by the servants that are given already. */
        private final int[] best = new int[(MOST_CHAIN + 1) * MASKS];
        final int[] given = new int[MOST_CHAIN];
        int placeCount;
        int servantCount;
        int givenCount;
        int emptyDays;

        int addPlace(Place place, int day) {
            for (int k = 0; k < placeCount; k++) {
                if (places[k].number == place.number) {
                    return NONE;
                }
            }
            if (placeCount >= MOST_CHAIN) {
                return NONE;
            }
            places[placeCount] = place;
            emptyFrom[placeCount] = day;
            placeCount++;
            return placeCount;
        }

        int addServant(Servant servant, int day) {
            int at = 0;
            for (int j = 0; j < servantCount; j++) {
                if (servants[j].number == servant.number) {
                    return NONE;
                }
                at += servants[j].number < servant.number ? 1 : 0;
            }
            if (servantCount >= MOST_CHAIN) {
                return NONE;
            }
            for (int j = servantCount; j > at; j--) {
                servants[j] = servants[j - 1];
                freeFrom[j] = freeFrom[j - 1];
            }
            servants[at] = servant;
            freeFrom[at] = day;
            servantCount++;
            return servantCount;
        }

        void fill(Rulebook book, int today) {
            for (int k = 0; k < placeCount; k++) {
                for (int j = 0; j < servantCount; j++) {
                    boolean fits = book.unfitness(servants[j], places[k], today) == 0;
                    days[k * MOST_CHAIN + j] = fits ? Math.max(0, freeFrom[j] - emptyFrom[k]) : NONE;
                }
            }
            Arrays.fill(best, 0);
            for (int k = placeCount - 1; k >= 0; k--) {
                for (int used = 0; used < 1 << servantCount; used++) {
                    best[k * MASKS + used] = bestFrom(k, used);
                }
            }
            takeLeastRow();
        }

        private int bestFrom(int k, int used) {
            int most = best[(k + 1) * MASKS + used];
            for (int j = 0; j < servantCount; j++) {
                most = Math.max(most, worthOf(k, j, used));
            }
            return most;
        }

        /** The best worth if the k-th place is given to servant j; NONE: it can't be. */
        private int worthOf(int k, int j, int used) {
            int waits = days[k * MOST_CHAIN + j];
            if (waits == NONE || (used >>> j & 1) != 0) {
                return NONE;
            }
            return ONE_GIVEN - waits + best[(k + 1) * MASKS + (used | 1 << j)];
        }

        private void takeLeastRow() {
            int used = 0;
            givenCount = 0;
            emptyDays = 0;
            for (int k = 0; k < placeCount; k++) {
                given[k] = NONE;
                for (int j = 0; j < servantCount && given[k] == NONE; j++) {
                    if (worthOf(k, j, used) == best[k * MASKS + used]) {
                        given[k] = servants[j].number;
                        givenCount++;
                        emptyDays += days[k * MOST_CHAIN + j];
                        used |= 1 << j;
                    }
                }
            }
        }
    }
}
