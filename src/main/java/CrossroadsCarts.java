import java.util.Arrays;

/**
 * Towns that vote on what they have, families that go where they like it best,
 * lands of rules, and the rests to which all that comes. What each call answers
 * stands in the document, promise by promise.
 */
public final class CrossroadsCarts {
    public static final int NONE = -1, BAD = -2, STATE = -3, FULL = -4;
    public static final long NO = Long.MIN_VALUE;

    private static final int NOTHING = -11, CAST = -12, PLACE = -13, SIZE = -14;
    private static final int UNBROKEN = -5, NOBODY = -5, NO_STEP = -6, TOO_MANY = -9;
    private static final int FAULT_BASE = -10, NO_EDGE = -100;

    private static final int TOWNS = 4, FAMILIES = 8, GOODS = 3, SORTS = 4, LEVELS = 6;
    private static final int LAWS = 4, TAPES = 6, LAST_YEAR = 99;
    private static final int MOST_INCOME = 99, MOST_GATE = 99, MOST_NUMBER = 999;

    private static final int STAY = 1, VOTED = 2, RENTED = 3, SEER = 4, CLUB = 5, KINDS = 6;
    /** The KIND right above each KIND; -1 above REST. */
    private static final int[] ABOVE = {-1, 0, 1, 1, 2, 1};

    private final Country now = new Country(new Land());
    /** Countries in which asked calls try things, so that now stays as it is. */
    private final Country trial = new Country(now.land);
    private final Country rival = new Country(now.land);
    /** The land into which the next text is read: a faulty text must leave the ruling one whole. */
    private Land draft = new Land();
    private final Reader reader = new Reader();
    private final Rests rests = new Rests();
    private final Walk walk = new Walk();
    private final Deals deals = new Deals();
    private final Acts acts = new Acts();
    private final Law[] laws = new Law[LAWS];
    private final Tape[] tapes = new Tape[TAPES];
    private int lawCount;
    private int landCount;
    private int years;

    public CrossroadsCarts() {
        for (int i = 0; i < TAPES; i++) {
            tapes[i] = new Tape();
        }
    }

    // ---- towns, families

    public int town(int houses) {
        if (!within(houses, 1, FAMILIES)) {
            return BAD;
        }
        if (now.towns >= TOWNS) {
            return FULL;
        }
        now.houses[now.towns] = houses;
        return now.towns++;
    }

    public int family(int sort, int income, int town) {
        if (!isTown(town)) {
            return NONE;
        }
        if (!within(sort, 0, SORTS - 1) || !within(income, 1, MOST_INCOME)) {
            return BAD;
        }
        return now.hasRoom(town) ? now.join(sort, income, town) : STATE;
    }

    public int put(int town, int what, int n) {
        if (!isTown(town) || !within(what, 0, 5)) {
            return NONE;
        }
        if (what < GOODS) {
            return within(n, 0, LEVELS - 1) ? replace(now.levels, town * GOODS + what, n) : BAD;
        }
        if (what == 4) {
            return within(n, 0, MOST_GATE) ? replace(now.gates, town, n) : BAD;
        }
        if (!within(n, 0, MOST_NUMBER)) {
            return BAD;
        }
        return replace(what == 3 ? now.rents : now.sums, town, n);
    }

    public long of(int family, int what) {
        if (!isFamily(family)) {
            return NO;
        }
        int town = now.at[family];
        switch (what) {
            case 0: return now.sorts[family];
            case 1: return now.incomes[family];
            case 2: return town;
            case 3: return now.homes[family];
            case 4: return now.duesOf(family, town);
            case 5: return now.worthOf(family, town);
            default: return NO;
        }
    }

    public int has(int town, int what) {
        if (!isTown(town)) {
            return NONE;
        }
        switch (what) {
            case 0: return now.houses[town];
            case 1: return now.crowd(town);
            case 2: return now.costOf(town);
            case 3: case 4: case 5: return now.levels[town * GOODS + what - 3];
            case 6: return now.rents[town];
            case 7: return now.gates[town];
            case 8: return now.sums[town];
            default: return NONE;
        }
    }

    // ---- the land

    public int feed(int bytes, int n) {
        if (!within(n, 0, 4)) {
            return BAD;
        }
        if (reader.length + n > Reader.MOST_BYTES) {
            return FULL;
        }
        for (int i = n - 1; i >= 0; i--) {
            reader.append((char) (bytes >> 8 * i & 255));
        }
        return reader.length;
    }

    public int land() {
        int fault = reader.faultIn(draft);
        reader.length = 0;
        if (fault != Reader.FAULTLESS) {
            return FAULT_BASE - fault;
        }
        Land former = now.land;
        now.land = draft;
        draft = former;
        return ++landCount;
    }

    public long worth(int family, int town) {
        return isFamily(family) && isTown(town) ? now.worthOf(family, town) : NO;
    }

    public int choice(int town, int good) {
        return isTown(town) && within(good, 0, GOODS - 1) ? now.chosenLevel(town, good) : NONE;
    }

    public int choose(int town) {
        return isTown(town) ? now.vote(town) : NONE;
    }

    // ---- rests, going

    public int rest(int kind) {
        if (!isRest(kind)) {
            return NONE;
        }
        return rests.breach(now, kind) == UNBROKEN ? 1 : 0;
    }

    public int broken(int kind) {
        return isRest(kind) ? rests.breach(now, kind) : NONE;
    }

    public int go(int family, int town) {
        if (!isFamily(family) || !isTown(town)) {
            return NONE;
        }
        return now.canGo(family, town) ? replace(now.at, family, town) : STATE;
    }

    public int step(boolean votes) {
        return walk.stride(now, votes);
    }

    public int end(boolean votes) {
        return walk.strideOn(now, votes);
    }

    public int judge(int tape, int i, int kind) {
        if (!isTape(tape) || !isRest(kind)) {
            return NONE;
        }
        Tape row = tapes[tape];
        if (row.isNothing()) {
            return NOTHING;
        }
        if (row.sort != Tape.SHORTS) {
            return CAST;
        }
        if (!row.spans(i, now.families)) {
            return PLACE;
        }
        trial.become(now);
        if (!settleAsTold(row, i)) {
            return STATE;
        }
        return rests.breach(trial, kind) == UNBROKEN ? 1 : 0;
    }

    public int all(int kind, int i, int family) {
        if (!isRest(kind) || !isFamily(family) || i < -1) {
            return NONE;
        }
        if (now.hasTooManyWays()) {
            return TOO_MANY;
        }
        trial.become(now);
        int ways = trial.ways();
        int found = 0;
        for (int way = 0; way < ways; way++) {
            if (!trial.settle(way) || rests.breach(trial, kind) != UNBROKEN) {
                continue;
            }
            if (found == i) {
                return trial.at[family];
            }
            found++;
        }
        return i == -1 ? found : NONE;
    }

    public int good(int family) {
        if (!isFamily(family)) {
            return NONE;
        }
        if (now.hasTooManyWays()) {
            return TOO_MANY;
        }
        trial.become(now);
        int ways = trial.ways();
        long most = NO;
        int answer = NONE;
        for (int way = 0; way < ways; way++) {
            if (!trial.settle(way)) {
                continue;
            }
            long together = trial.worthOfAll();
            if (together > most) {
                most = together;
                answer = trial.at[family];
            }
        }
        return answer;
    }

    // ---- rents, sorting, tipping

    public int rise() {
        Arrays.fill(now.rents, 0);
        for (int times = 0; times < 200; times++) {
            int town = now.soughtTown();
            if (town < 0) {
                return times;
            }
            now.rents[town]++;
        }
        return 200;
    }

    public int sorted(int what) {
        if (!within(what, 0, 2)) {
            return NONE;
        }
        if (what == 0) {
            return now.pairs();
        }
        if (now.families > Deals.MOST_FAMILIES) {
            return TOO_MANY;
        }
        return what == 1 ? deals.asSorted(now) : deals.ofAll(now);
    }

    public int tip(boolean votes) {
        rival.become(now);
        walk.strideOn(rival, votes);
        for (int family = 0; family < now.families; family++) {
            for (int town = 0; town < now.towns; town++) {
                if (!now.canGo(family, town)) {
                    continue;
                }
                trial.become(now);
                trial.at[family] = town;
                walk.strideOn(trial, votes);
                if (trial.othersDiffer(rival, family)) {
                    return 100 * family + town;
                }
            }
        }
        return UNBROKEN;
    }

    // ---- laws, edges, years

    public int law(int what, int town, int n, int price) {
        if (!within(what, 0, 2) || !isTown(town)) {
            return NONE;
        }
        int most = what == Law.GATE ? MOST_GATE : MOST_NUMBER;
        if (!within(n, 0, most) || !within(price, 0, 99)) {
            return BAD;
        }
        if (lawCount >= LAWS) {
            return FULL;
        }
        laws[lawCount] = new Law(what, town, n, price);
        return lawCount++;
    }

    public int mend(int coin, boolean votes) {
        if (!within(coin, 0, MOST_NUMBER)) {
            return BAD;
        }
        int best = 0;
        int bestPrice = 0;
        long bestLeast = NO;
        for (int set = 0; set < 1 << lawCount; set++) {
            int price = priceOf(set);
            if (price > coin || clashIn(set)) {
                continue;
            }
            trial.become(now);
            enact(set);
            walk.strideOn(trial, votes);
            long least = trial.leastWorth();
            if (least > bestLeast || least == bestLeast && price < bestPrice) {
                best = set;
                bestPrice = price;
                bestLeast = least;
            }
        }
        return best;
    }

    public int edge(int sort, int good, int kind) {
        if (!within(sort, 0, SORTS - 1) || !within(good, 0, GOODS - 1) || !isRest(kind)) {
            return NONE;
        }
        if (rests.breach(now, kind) != UNBROKEN) {
            return 0;
        }
        int[] likes = now.land.likes;
        int place = sort * GOODS + good;
        int like = likes[place];
        int answer = NO_EDGE;
        for (int size = 1; size <= 20 && answer == NO_EDGE; size++) {
            for (int change = -size; change <= size && answer == NO_EDGE; change += 2 * size) {
                likes[place] = like + change;
                if (rests.breach(now, kind) != UNBROKEN) {
                    answer = change;
                }
            }
        }
        likes[place] = like;
        return answer;
    }

    public int year(int seed) {
        if (!within(seed, 0, MOST_NUMBER)) {
            return BAD;
        }
        if (years >= LAST_YEAR) {
            return STATE;
        }
        for (int family = 0; family < now.families; family++) {
            int income = now.incomes[family] + (13 * family + 7 * years + seed) % 5 - 2;
            now.incomes[family] = Math.max(1, Math.min(MOST_INCOME, income));
        }
        years++;
        return births();
    }

    // ---- acts, tapes

    public int act(int kind, int act, int x) {
        acts.forget(now.families, now.towns);
        if (!within(kind, 0, KINDS - 1) || !within(act, 0, Acts.SORTS_OF_ACT - 1)) {
            return 0;
        }
        return acts.done(kind, act, x);
    }

    public int trace(int i) {
        return i >= 0 && i < Acts.MOST_KEPT && i < acts.ran ? acts.kept[i] : NONE;
    }

    public int taken(int kind, int k) {
        if (!within(k, 0, KINDS - 1)) {
            return BAD;
        }
        if (!within(kind, 0, KINDS - 1)) {
            return NOTHING;
        }
        return Rests.isUnder(kind, k) ? kind : CAST;
    }

    public int count(int what) {
        switch (what) {
            case 0: return now.towns;
            case 1: return now.families;
            case 2: return landCount;
            case 3: return reader.length;
            case 4: return lawCount;
            case 5: return years;
            case 6: return acts.ran;
            default: return BAD;
        }
    }

    public int tape(int tape, int sort, int n) {
        if (!isTape(tape)) {
            return NONE;
        }
        if (!within(sort, -1, Tape.BOOLEANS)) {
            return BAD;
        }
        if (sort == Tape.NO_SORT) {
            tapes[tape].become(sort, 0);
            return 1;
        }
        if (n > Tape.MOST_ITEMS) {
            return BAD;
        }
        if (n < 0) {
            return SIZE;
        }
        tapes[tape].become(sort, n);
        return 1;
    }

    public int item(int tape, int i, long v) {
        if (!isTape(tape)) {
            return NONE;
        }
        Tape row = tapes[tape];
        if (row.isNothing()) {
            return NOTHING;
        }
        if (!row.spans(i, 1)) {
            return PLACE;
        }
        row.items[i] = row.cut(v);
        return 1;
    }

    public long read(int tape, int i) {
        // what holds nothing has no places either
        return isTape(tape) && tapes[tape].spans(i, 1) ? tapes[tape].items[i] : NO;
    }

    public int shift(int tape, int i, int other, int j, int n) {
        if (!isTape(tape) || !isTape(other)) {
            return NONE;
        }
        Tape from = tapes[tape];
        Tape to = tapes[other];
        if (from.isNothing() || to.isNothing()) {
            return NOTHING;
        }
        if (from.sort != to.sort) {
            return CAST;
        }
        if (!from.spans(i, n) || !to.spans(j, n)) {
            return PLACE;
        }
        System.arraycopy(from.items, i, to.items, j, n);
        return n;
    }

    // ---- what several calls need

    private static boolean within(int n, int least, int most) {
        return n >= least && n <= most;
    }

    private boolean isTown(int town) {
        return within(town, 0, now.towns - 1);
    }

    private boolean isFamily(int family) {
        return within(family, 0, now.families - 1);
    }

    private static boolean isTape(int tape) {
        return within(tape, 0, TAPES - 1);
    }

    /** Whether one can ask for rest of a KIND: REST itself is never asked for. */
    private static boolean isRest(int kind) {
        return within(kind, STAY, CLUB);
    }

    /** Puts n into a row and answers what was there. */
    private static int replace(int[] row, int place, int n) {
        int former = row[place];
        row[place] = n;
        return former;
    }

    /** Puts the trial's families where a ROW tells; false: a town is not there or too small. */
    private boolean settleAsTold(Tape row, int i) {
        for (int family = 0; family < trial.families; family++) {
            long town = row.items[i + family];
            if (town < 0 || town >= trial.towns) {
                return false;
            }
            trial.at[family] = (int) town;
        }
        return trial.fits();
    }

    private int priceOf(int set) {
        int price = 0;
        for (int i = 0; i < lawCount; i++) {
            if ((set >> i & 1) == 1) {
                price += laws[i].price;
            }
        }
        return price;
    }

    private boolean clashIn(int set) {
        for (int i = 0; i < lawCount; i++) {
            for (int j = 0; j < i; j++) {
                if ((set >> i & set >> j & 1) == 1 && laws[i].clashes(laws[j])) {
                    return true;
                }
            }
        }
        return false;
    }

    private void enact(int set) {
        for (int i = 0; i < lawCount; i++) {
            if ((set >> i & 1) == 1) {
                laws[i].rule(trial);
            }
        }
    }

    /** Each town with room and two of a sort gets one more of it: how many came. */
    private int births() {
        int came = 0;
        for (int town = 0; town < now.towns; town++) {
            int sort = now.doubledSort(town);
            if (sort >= 0 && now.hasRoom(town) && now.join(sort, 10, town) >= 0) {
                came++;
            }
        }
        return came;
    }

    /** The rules of a land; a new one has those that hold without any clause. */
    private static final class Land {
        static final int BY_HEAD = 0, BY_INCOME = 1;
        static final int MOST = 0, MIDDLE = 1, OLD = 2;
        /** Signs of the shun program, in the low four bits; 0 to 11 are tests. */
        static final int NOT = 12, AND = 13, OR = 14, SHUN = 15;

        final int[] likes = new int[SORTS * GOODS];
        final int[] nears = new int[SORTS * SORTS];
        final int[] costs = {10, 10, 10};
        int mile;
        int dues;
        int pick;
        /** All shuns as one program, its signs behind what they work on. */
        final int[] program = new int[Reader.MOST_BYTES];
        int programLength;

        void forget() {
            Arrays.fill(likes, 0);
            Arrays.fill(nears, 0);
            Arrays.fill(costs, 10);
            mile = 0;
            dues = BY_HEAD;
            pick = MOST;
            programLength = 0;
        }

        /** A sign with its number comes behind the program. */
        void emit(int sign, int n) {
            if (programLength < program.length) {
                program[programLength++] = n << 4 | sign;
            }
        }

        /** All that is shunned together. What the tests found stands in bits, the newest lowest. */
        int shunned(int sort, int income, int town, int heads) {
            int sum = 0;
            int found = 0;
            for (int i = 0; i < programLength; i++) {
                int sign = program[i] & 15;
                int n = program[i] >> 4;
                switch (sign) {
                    case NOT: found ^= 1; break;
                    case AND: found = found >> 1 & (found | ~1); break;
                    case OR: found = found >> 1 | found & 1; break;
                    case SHUN: sum += (found & 1) * n; found = 0; break;
                    default:
                        int letter = sign / 3;
                        int left = letter == 0 ? sort : letter == 1 ? income : letter == 2 ? town : heads;
                        found = found << 1 | (holds(left, sign % 3, n) ? 1 : 0);
                }
            }
            return sum;
        }

        private static boolean holds(int left, int mark, int right) {
            return mark == 0 ? left < right : mark == 1 ? left == right : left > right;
        }
    }

    /** Keeps THE TEXT and reads it into a land; its place is where a fault would be. */
    private static final class Reader {
        static final int MOST_BYTES = 120, FAULTLESS = -1;
        private static final int MOST_CLAUSES = 10, MOST_NESTS = 4, WORD_LETTERS = 4;
        private static final String WORDS = "likenearcostmileduespickshun";

        private final char[] text = new char[MOST_BYTES];
        int length;
        private int place;

        void append(char sign) {
            if (length < MOST_BYTES) {
                text[length++] = sign;
            }
        }

        /** Reads THE TEXT into a land: FAULTLESS, or the place of THE FAULT. */
        int faultIn(Land land) {
            land.forget();
            place = 0;
            for (int clauses = 1; clauses <= MOST_CLAUSES; clauses++) {
                if (!clause(land)) {
                    return place;
                }
                if (place == length) {
                    return FAULTLESS;
                }
                if (clauses == MOST_CLAUSES || !met(';')) {
                    return place;
                }
            }
            return place;
        }

        private boolean clause(Land land) {
            int word = word();
            if (word < 0 || !met(' ')) {
                return false;
            }
            switch (word) {
                case 0: return pair(land.likes, GOODS);
                case 1: return pair(land.nears, SORTS);
                case 2: return single(land.costs);
                case 3: land.mile = number(); return land.mile >= 0;
                case 4: land.dues = letter("hie"); return land.dues >= 0;
                case 5: land.pick = letter("mdo"); return land.pick >= 0;
                default: return either(land, 0) && met(' ') && weight(land);
            }
        }

        /** Which of the words stands here; the first letter tells, as all differ in it. */
        private int word() {
            for (int word = 0; word * WORD_LETTERS < WORDS.length(); word++) {
                if (!met(WORDS.charAt(word * WORD_LETTERS))) {
                    continue;
                }
                for (int i = 1; i < WORD_LETTERS; i++) {
                    if (!met(WORDS.charAt(word * WORD_LETTERS + i))) {
                        return -1;
                    }
                }
                return word;
            }
            return -1;
        }

        /** A sort, a figure below width and a number, which comes into the row. */
        private boolean pair(int[] row, int width) {
            int sort = figure(SORTS - 1);
            if (sort < 0 || !met(' ')) {
                return false;
            }
            int other = figure(width - 1);
            if (other < 0 || !met(' ')) {
                return false;
            }
            int n = number();
            if (n < 0) {
                return false;
            }
            row[sort * width + other] = n;
            return true;
        }

        private boolean single(int[] row) {
            int good = figure(GOODS - 1);
            if (good < 0 || !met(' ')) {
                return false;
            }
            int n = number();
            if (n < 0) {
                return false;
            }
            row[good] = n;
            return true;
        }

        /** The number of a shun, which ends what its tests have put into the program. */
        private boolean weight(Land land) {
            int n = number();
            if (n < 0) {
                return false;
            }
            land.emit(Land.SHUN, n);
            return true;
        }

        /** An E: terms with | between, each of factors with & between. */
        private boolean either(Land land, int nests) {
            boolean firstTerm = true;
            boolean firstFactor = true;
            for (int factors = 0; factors < MOST_BYTES; factors++) {
                if (!factor(land, nests)) {
                    return false;
                }
                if (!firstFactor) {
                    land.emit(Land.AND, 0);
                }
                firstFactor = false;
                if (met('&')) {
                    continue;
                }
                if (!firstTerm) {
                    land.emit(Land.OR, 0);
                }
                firstTerm = false;
                firstFactor = true;
                if (!met('|')) {
                    return true;
                }
            }
            return false;
        }

        private boolean factor(Land land, int nests) {
            boolean nesting = place < length && (text[place] == '!' || text[place] == '(');
            if (nesting && nests >= MOST_NESTS) {
                return false;
            }
            if (met('!')) {
                if (!factor(land, nests + 1)) {
                    return false;
                }
                land.emit(Land.NOT, 0);
                return true;
            }
            if (met('(')) {
                return either(land, nests + 1) && met(')');
            }
            return test(land);
        }

        private boolean test(Land land) {
            int letter = letter("sitf");
            if (letter < 0) {
                return false;
            }
            int mark = letter("<=>");
            if (mark < 0) {
                return false;
            }
            int n = number();
            if (n < 0) {
                return false;
            }
            land.emit(letter * 3 + mark, n);
            return true;
        }

        private boolean met(char sign) {
            if (place < length && text[place] == sign) {
                place++;
                return true;
            }
            return false;
        }

        /** Which of the letters stands here, or -1. */
        private int letter(String letters) {
            int found = place < length ? letters.indexOf(text[place]) : -1;
            if (found >= 0) {
                place++;
            }
            return found;
        }

        /** The figure 0 to most that stands here, or -1. */
        private int figure(int most) {
            if (place < length && text[place] >= '0' && text[place] <= '0' + most) {
                return text[place++] - '0';
            }
            return -1;
        }

        /** The number of 1 to 3 digits that stands here, or -1. */
        private int number() {
            int n = -1;
            for (int digits = 0; digits < 3 && place < length; digits++) {
                if (text[place] < '0' || text[place] > '9') {
                    return n;
                }
                n = (n < 0 ? 0 : n) * 10 + text[place++] - '0';
            }
            return n;
        }
    }

    /** The towns and families as they are, or as they would be, with the land that rules them. */
    private static final class Country {
        Land land;
        int towns;
        int families;
        final int[] houses = new int[TOWNS];
        final int[] levels = new int[TOWNS * GOODS];
        final int[] rents = new int[TOWNS];
        final int[] gates = new int[TOWNS];
        final int[] sums = new int[TOWNS];
        final int[] sorts = new int[FAMILIES];
        final int[] incomes = new int[FAMILIES];
        final int[] at = new int[FAMILIES];
        final int[] homes = new int[FAMILIES];
        /** How many want each level, in the vote that is being held. */
        private final int[] wants = new int[LEVELS];

        Country(Land land) {
            this.land = land;
        }

        void become(Country other) {
            land = other.land;
            towns = other.towns;
            families = other.families;
            System.arraycopy(other.houses, 0, houses, 0, TOWNS);
            System.arraycopy(other.levels, 0, levels, 0, TOWNS * GOODS);
            System.arraycopy(other.rents, 0, rents, 0, TOWNS);
            System.arraycopy(other.gates, 0, gates, 0, TOWNS);
            System.arraycopy(other.sums, 0, sums, 0, TOWNS);
            System.arraycopy(other.sorts, 0, sorts, 0, FAMILIES);
            System.arraycopy(other.incomes, 0, incomes, 0, FAMILIES);
            System.arraycopy(other.at, 0, at, 0, FAMILIES);
            System.arraycopy(other.homes, 0, homes, 0, FAMILIES);
        }

        /** One more family, at home where it comes to be: its number, or FULL. */
        int join(int sort, int income, int town) {
            if (families >= FAMILIES) {
                return FULL;
            }
            sorts[families] = sort;
            incomes[families] = income;
            at[families] = town;
            homes[families] = town;
            return families++;
        }

        int crowd(int town) {
            int heads = 0;
            for (int family = 0; family < families; family++) {
                if (at[family] == town) {
                    heads++;
                }
            }
            return heads;
        }

        boolean hasRoom(int town) {
            return crowd(town) < houses[town];
        }

        boolean canGo(int family, int town) {
            return at[family] != town && incomes[family] >= gates[town] && hasRoom(town);
        }

        /** Whether no town has more families than houses. */
        boolean fits() {
            for (int town = 0; town < towns; town++) {
                if (crowd(town) > houses[town]) {
                    return false;
                }
            }
            return true;
        }

        int costOf(int town) {
            int cost = -sums[town];
            for (int good = 0; good < GOODS; good++) {
                cost += levels[town * GOODS + good] * land.costs[good];
            }
            return cost < 0 ? 0 : cost;
        }

        private boolean isAsIfIn(int town, int one, int guest) {
            return at[one] == town || one == guest;
        }

        /** The greatest income in a town, as if a guest were there. */
        private int greatestIncome(int town, int guest) {
            int greatest = 0;
            for (int one = 0; one < families; one++) {
                if (isAsIfIn(town, one, guest) && incomes[one] > greatest) {
                    greatest = incomes[one];
                }
            }
            return greatest;
        }

        /** What a family bears of a cost, as the land shares it out, against what the others there bear. */
        private int share(int one, int greatest) {
            switch (land.dues) {
                case Land.BY_HEAD: return 1;
                case Land.BY_INCOME: return incomes[one];
                default: return 2 * incomes[one] >= greatest ? 1 : 0;
            }
        }

        private int sharesTogether(int town, int guest, int greatest) {
            int shares = 0;
            for (int one = 0; one < families; one++) {
                if (isAsIfIn(town, one, guest)) {
                    shares += share(one, greatest);
                }
            }
            return shares;
        }

        private static int cutPart(int cost, int share, int shares) {
            return shares == 0 ? 0 : cost * share / shares;
        }

        /** DUES of a family in a town, as if it were there. */
        int duesOf(int family, int town) {
            int greatest = greatestIncome(town, family);
            return cutPart(costOf(town), share(family, greatest), sharesTogether(town, family, greatest));
        }

        int worthOf(int family, int town) {
            int worth = -duesOf(family, town) - rents[town];
            for (int good = 0; good < GOODS; good++) {
                worth += levels[town * GOODS + good] * land.likes[sorts[family] * GOODS + good];
            }
            int heads = 1;
            for (int other = 0; other < families; other++) {
                if (other != family && at[other] == town) {
                    worth += land.nears[sorts[family] * SORTS + sorts[other]];
                    heads++;
                }
            }
            worth -= land.shunned(sorts[family], incomes[family], town, heads);
            return worth - land.mile * Math.abs(homes[family] - town);
        }

        long worthOfAll() {
            long together = 0;
            for (int family = 0; family < families; family++) {
                together += worthOf(family, at[family]);
            }
            return together;
        }

        /** The least WORTH that a family has; 0 where there is none. */
        int leastWorth() {
            int least = 0;
            for (int family = 0; family < families; family++) {
                int worth = worthOf(family, at[family]);
                if (family == 0 || worth < least) {
                    least = worth;
                }
            }
            return least;
        }

        /** The town of greatest WORTH to which a family can go, if that is greater than where it is; or -1. */
        int betterTown(int family) {
            int better = -1;
            int most = worthOf(family, at[family]);
            for (int town = 0; town < towns; town++) {
                if (!canGo(family, town)) {
                    continue;
                }
                int worth = worthOf(family, town);
                if (worth > most) {
                    most = worth;
                    better = town;
                }
            }
            return better;
        }

        int chosenLevel(int town, int good) {
            Arrays.fill(wants, 0);
            boolean oldAlone = land.pick == Land.OLD && hasOldOnes(town);
            int voters = 0;
            for (int family = 0; family < families; family++) {
                if (at[family] == town && (!oldAlone || homes[family] == town)) {
                    wants[wantedLevel(family, town, good)]++;
                    voters++;
                }
            }
            return land.pick == Land.MIDDLE ? middleWant(voters) : commonestWant();
        }

        private boolean hasOldOnes(int town) {
            for (int family = 0; family < families; family++) {
                if (at[family] == town && homes[family] == town) {
                    return true;
                }
            }
            return false;
        }

        /** The level of greatest WORTH; only its like and the dues hang on it, so they alone are weighed. */
        private int wantedLevel(int family, int town, int good) {
            int like = land.likes[sorts[family] * GOODS + good];
            int greatest = greatestIncome(town, family);
            int share = share(family, greatest);
            int shares = sharesTogether(town, family, greatest);
            int place = town * GOODS + good;
            int former = levels[place];
            int wanted = 0;
            int most = 0;
            for (int level = 0; level < LEVELS; level++) {
                levels[place] = level;
                int worth = like * level - cutPart(costOf(town), share, shares);
                if (level == 0 || worth > most) {
                    most = worth;
                    wanted = level;
                }
            }
            levels[place] = former;
            return wanted;
        }

        private int commonestWant() {
            int commonest = 0;
            for (int level = 1; level < LEVELS; level++) {
                if (wants[level] > wants[commonest]) {
                    commonest = level;
                }
            }
            return commonest;
        }

        private int middleWant(int voters) {
            int ahead = 0;
            for (int level = 0; level < LEVELS; level++) {
                ahead += wants[level];
                if (2 * ahead >= voters) {
                    return level;
                }
            }
            return 0;
        }

        /** A town chooses, good by good: how many levels changed. */
        int vote(int town) {
            int changed = 0;
            for (int good = 0; good < GOODS; good++) {
                int level = chosenLevel(town, good);
                if (level != levels[town * GOODS + good]) {
                    levels[town * GOODS + good] = level;
                    changed++;
                }
            }
            return changed;
        }

        boolean hasTooManyWays() {
            return families > 5 || towns > 3;
        }

        /** In how many ways families can be in towns, with houses enough or not. */
        int ways() {
            int ways = 1;
            for (int family = 0; family < families; family++) {
                ways *= towns;
            }
            return ways;
        }

        /** Puts the families as in that way of all, rows in order; false: there are not houses enough. */
        boolean settle(int way) {
            if (towns == 0) {
                return families == 0;
            }
            int left = way;
            for (int family = families - 1; family >= 0; family--) {
                at[family] = left % towns;
                left /= towns;
            }
            return fits();
        }

        /** The least town into which more would come than go, or -1. */
        int soughtTown() {
            for (int town = 0; town < towns; town++) {
                int together = crowd(town);
                for (int family = 0; family < families; family++) {
                    if (at[family] != town && incomes[family] >= gates[town]
                            && worthOf(family, town) > worthOf(family, at[family])) {
                        together++;
                    }
                }
                if (together > houses[town]) {
                    return town;
                }
            }
            return -1;
        }

        int pairs() {
            int pairs = 0;
            for (int one = 0; one < families; one++) {
                for (int other = 0; other < one; other++) {
                    if (sorts[one] == sorts[other] && at[one] == at[other]) {
                        pairs++;
                    }
                }
            }
            return pairs;
        }

        /** The least sort of which two or more families are in a town, or -1. */
        int doubledSort(int town) {
            for (int sort = 0; sort < SORTS; sort++) {
                int heads = 0;
                for (int family = 0; family < families; family++) {
                    if (at[family] == town && sorts[family] == sort) {
                        heads++;
                    }
                }
                if (heads >= 2) {
                    return sort;
                }
            }
            return -1;
        }

        boolean othersDiffer(Country other, int except) {
            for (int family = 0; family < families; family++) {
                if (family != except && at[family] != other.at[family]) {
                    return true;
                }
            }
            return false;
        }

        /** Where families are and the levels, as one number: two bits a town, three a level. */
        long imprint() {
            long imprint = 0;
            for (int family = 0; family < families; family++) {
                imprint = imprint << 2 | at[family];
            }
            for (int place = 0; place < TOWNS * GOODS; place++) {
                imprint = imprint << 3 | levels[place];
            }
            return imprint;
        }
    }

    /** The KINDS of rest: what breaks each. */
    private static final class Rests {
        private final int[] keptLevels = new int[GOODS];
        private final int[] keptTowns = new int[FAMILIES];
        private final int[] worths = new int[FAMILIES];

        static boolean isUnder(int kind, int k) {
            int up = kind;
            for (int climbed = 0; climbed < KINDS && up >= 0; climbed++) {
                if (up == k) {
                    return true;
                }
                up = ABOVE[up];
            }
            return false;
        }

        /** What breaks a rest first, or UNBROKEN; the country is left as it was. */
        int breach(Country country, int kind) {
            int breach = stay(country);
            if (breach == UNBROKEN && isUnder(kind, VOTED)) {
                breach = voted(country);
            }
            if (breach != UNBROKEN) {
                return breach;
            }
            switch (kind) {
                case RENTED: return rented(country);
                case SEER: return seer(country);
                case CLUB: return club(country);
                default: return UNBROKEN;
            }
        }

        private int stay(Country country) {
            for (int family = 0; family < country.families; family++) {
                int worth = country.worthOf(family, country.at[family]);
                for (int town = 0; town < country.towns; town++) {
                    if (country.canGo(family, town) && country.worthOf(family, town) > worth) {
                        return 100 * family + town;
                    }
                }
            }
            return UNBROKEN;
        }

        private int voted(Country country) {
            for (int town = 0; town < country.towns; town++) {
                for (int good = 0; good < GOODS; good++) {
                    if (country.chosenLevel(town, good) != country.levels[town * GOODS + good]) {
                        return 100 * town + good;
                    }
                }
            }
            return UNBROKEN;
        }

        private int rented(Country country) {
            for (int family = 0; family < country.families; family++) {
                int worth = country.worthOf(family, country.at[family]);
                for (int town = 0; town < country.towns; town++) {
                    if (!country.hasRoom(town) && country.incomes[family] >= country.gates[town]
                            && country.worthOf(family, town) > worth) {
                        return 100 * family + town;
                    }
                }
            }
            for (int town = 0; town < country.towns; town++) {
                if (country.hasRoom(town) && country.rents[town] != 0) {
                    return 1000 + town;
                }
            }
            return UNBROKEN;
        }

        private int seer(Country country) {
            for (int family = 0; family < country.families; family++) {
                int here = country.at[family];
                int worth = country.worthOf(family, here);
                for (int town = 0; town < country.towns; town++) {
                    if (!country.canGo(family, town)) {
                        continue;
                    }
                    System.arraycopy(country.levels, town * GOODS, keptLevels, 0, GOODS);
                    country.at[family] = town;
                    country.vote(town);
                    int foreseen = country.worthOf(family, town);
                    country.at[family] = here;
                    System.arraycopy(keptLevels, 0, country.levels, town * GOODS, GOODS);
                    if (foreseen > worth) {
                        return 100 * family + town;
                    }
                }
            }
            return UNBROKEN;
        }

        private int club(Country country) {
            for (int family = 0; family < country.families; family++) {
                worths[family] = country.worthOf(family, country.at[family]);
            }
            for (int set = 0; set < 1 << country.families; set++) {
                int size = Integer.bitCount(set);
                if (size != 2 && size != 3) {
                    continue;
                }
                for (int town = 0; town < country.towns; town++) {
                    if (country.crowd(town) == 0 && country.houses[town] >= size && wouldFound(country, set, town)) {
                        return 100 * leastOf(set) + town;
                    }
                }
            }
            return UNBROKEN;
        }

        private static int leastOf(int set) {
            return Integer.bitCount((set & -set) - 1);
        }

        /** Whether no gate hinders a set, and all of it would have greater WORTH together in a town. */
        private boolean wouldFound(Country country, int set, int town) {
            System.arraycopy(country.at, 0, keptTowns, 0, FAMILIES);
            boolean would = true;
            for (int family = 0; family < country.families; family++) {
                if ((set >> family & 1) == 1) {
                    would &= country.incomes[family] >= country.gates[town];
                    country.at[family] = town;
                }
            }
            for (int family = 0; family < country.families && would; family++) {
                if ((set >> family & 1) == 1) {
                    would = country.worthOf(family, town) > worths[family];
                }
            }
            System.arraycopy(keptTowns, 0, country.at, 0, FAMILIES);
            return would;
        }
    }

    /** Going step by step. */
    private static final class Walk {
        private static final int MOST_STEPS = 20;
        /** How all was ahead of the steps and behind each. */
        private final long[] imprints = new long[MOST_STEPS + 1];

        /** A STEP: the family that went, NOBODY if only levels changed, or NO_STEP. */
        int stride(Country country, boolean votes) {
            int mover = NOBODY;
            for (int family = 0; family < country.families && mover == NOBODY; family++) {
                int town = country.betterTown(family);
                if (town >= 0) {
                    country.at[family] = town;
                    mover = family;
                }
            }
            int changed = 0;
            for (int town = 0; town < country.towns && votes; town++) {
                changed += country.vote(town);
            }
            return mover == NOBODY && changed == 0 ? NO_STEP : mover;
        }

        /** END: how many steps were done, 100 and how long ago it was like that, or 200. */
        int strideOn(Country country, boolean votes) {
            imprints[0] = country.imprint();
            for (int done = 1; done <= MOST_STEPS; done++) {
                if (stride(country, votes) == NO_STEP) {
                    return done - 1;
                }
                imprints[done] = country.imprint();
                for (int ago = 1; ago <= done; ago++) {
                    if (imprints[done - ago] == imprints[done]) {
                        return 100 + ago;
                    }
                }
            }
            return 200;
        }
    }

    /** All ways to deal the sorts anew among the families. */
    private static final class Deals {
        static final int MOST_FAMILIES = 7;
        /** How many families of each sort are still to be dealt. */
        private final int[] left = new int[SORTS];
        /** How many of each sort were dealt into each town. */
        private final int[] dealt = new int[TOWNS * SORTS];

        int ofAll(Country country) {
            int ways = 1;
            for (int family = 2; family <= country.families; family++) {
                ways *= family;
            }
            return ways;
        }

        /** How many of them have as many pairs as there are now, or more. */
        int asSorted(Country country) {
            Arrays.fill(left, 0);
            Arrays.fill(dealt, 0);
            for (int family = 0; family < country.families; family++) {
                left[country.sorts[family]]++;
            }
            return ways(country, 0, country.pairs());
        }

        /** Ways to deal to the families from one on, so that these many pairs more come or more than that. */
        private int ways(Country country, int family, int pairs) {
            if (family >= country.families) {
                return pairs <= 0 ? 1 : 0;
            }
            int ways = 0;
            for (int sort = 0; sort < SORTS; sort++) {
                if (left[sort] == 0) {
                    continue;
                }
                // each family of the sort that is left is a way of its own, though they look alike
                int likeWays = left[sort]--;
                int place = country.at[family] * SORTS + sort;
                int mates = dealt[place]++;
                ways += likeWays * ways(country, family + 1, pairs - mates);
                dealt[place]--;
                left[sort]++;
            }
            return ways;
        }
    }

    /** A gate, a sum or a rent that a town could be given. */
    private static final class Law {
        static final int GATE = 0, SUM = 1;
        private final int what;
        private final int town;
        private final int n;
        final int price;

        Law(int what, int town, int n, int price) {
            this.what = what;
            this.town = town;
            this.n = n;
            this.price = price;
        }

        boolean clashes(Law other) {
            return what == other.what && town == other.town;
        }

        void rule(Country country) {
            int[] row = what == GATE ? country.gates : what == SUM ? country.sums : country.rents;
            row[town] = n;
        }
    }

    /** The acts of the KINDS and THE TRACE of the latest. */
    private static final class Acts {
        static final int SORTS_OF_ACT = 3, MOST_KEPT = 20;
        private static final int HOLDS = 0, BREAKS = 1, TELLS = 2, MOST_DEEP = 40;
        /** The number of each KIND's own body of holds, breaks, tells; 0: it has none. */
        private static final int[] BODIES = {
            10, 11, 12,
            0, 20, 0,
            30, 0, 31,
            40, 0, 0,
            0, 51, 50,
            0, 60, 61,
        };

        final int[] kept = new int[MOST_KEPT];
        int ran;
        private int kind;
        private int families;
        private int towns;

        void forget(int families, int towns) {
            ran = 0;
            this.families = families;
            this.towns = towns;
        }

        int done(int kind, int act, int x) {
            this.kind = kind;
            return own(act, x, 0);
        }

        /** holds(..) and so on: from the acting KIND on. */
        private int own(int act, int x, int deep) {
            return from(kind, act, x, deep);
        }

        /** super.holds(..) and so on, in a body of that KIND. */
        private int above(int owner, int act, int x, int deep) {
            return from(ABOVE[owner], act, x, deep);
        }

        /** Runs the body of a KIND, or of the next KIND above that has one. */
        private int from(int start, int act, int x, int deep) {
            int owner = start;
            for (int climbed = 0; climbed < KINDS && owner > 0 && BODIES[owner * SORTS_OF_ACT + act] == 0; climbed++) {
                owner = ABOVE[owner];
            }
            if (owner < 0 || deep > MOST_DEEP) {
                return 0;
            }
            int body = BODIES[owner * SORTS_OF_ACT + act];
            if (ran < MOST_KEPT) {
                kept[ran] = body;
            }
            ran++;
            return run(body, x, deep + 1);
        }

        private int run(int body, int x, int deep) {
            switch (body) {
                case 10: return x + families;
                case 11: return own(HOLDS, x, deep) - towns;
                case 12: return own(BREAKS, x, deep) * 2;
                case 20: return above(STAY, BREAKS, x, deep) ^ 5;
                case 30: return above(VOTED, HOLDS, x * 3, deep);
                case 31: return above(VOTED, TELLS, x, deep) + own(BREAKS, 1, deep);
                case 40: return -above(RENTED, HOLDS, x, deep);
                case 50: return above(SEER, TELLS, x - families, deep);
                case 51: return above(SEER, BREAKS, x, deep) + above(SEER, HOLDS, 2, deep);
                case 60: return above(CLUB, BREAKS, x + towns, deep);
                case 61: return own(HOLDS, x, deep) - above(CLUB, TELLS, x, deep);
                default: return 0;
            }
        }
    }

    /** A row of items of a sort, or nothing; all sorts are kept as longs, cut to what an item holds. */
    private static final class Tape {
        static final int NO_SORT = -1, BYTES = 0, SHORTS = 1, INTS = 2, BOOLEANS = 4, MOST_ITEMS = 60;

        final long[] items = new long[MOST_ITEMS];
        int sort = NO_SORT;
        private int length;

        void become(int sort, int length) {
            this.sort = sort;
            this.length = length;
            Arrays.fill(items, 0);
        }

        boolean isNothing() {
            return sort == NO_SORT;
        }

        /** Whether the tape has n places from i on. */
        boolean spans(int i, int n) {
            return i >= 0 && n >= 0 && n <= length && i <= length - n;
        }

        long cut(long v) {
            switch (sort) {
                case BYTES: return (byte) v;
                case SHORTS: return (short) v;
                case INTS: return (int) v;
                case BOOLEANS: return v != 0 ? 1 : 0;
                default: return v;
            }
        }
    }
}
