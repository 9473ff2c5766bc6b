import java.util.Random;

/** Runs of calls drawn from fixed seeds, each answer held against that of the plain model. */
public final class AgainstModelTest {
    private static final int RUNS = 400, CALLS = 512;
    private static final int[] ODD = {-1, -2, 6, 7, 60, 61, 70000, Integer.MAX_VALUE, Integer.MIN_VALUE};

    private final Random random;
    private final CrossroadsCarts program = new CrossroadsCarts();
    private final PlainModel model = new PlainModel();
    private final int run;
    private final StringBuilder told = new StringBuilder();
    private String call;
    /** Runs of few families and towns are those in which all() and good() answer. */
    private final int mostTowns, mostFamilies;
    /** In every third run sums pay some levels, so that levels between 0 and 5 are wanted, too. */
    private final boolean sums;
    /** How often the program has been called. */
    private int calls;

    private AgainstModelTest(int run) {
        this.run = run;
        random = new Random(run);
        sums = run % 3 == 0;
        mostTowns = 1 + random.nextInt(4);
        mostFamilies = random.nextInt(9);
    }

    public static void main(String[] args) {
        int wrong = 0, runs = args.length > 0 ? Integer.parseInt(args[0]) : RUNS;
        for (int run = 1; run <= runs; run++) {
            if (!new AgainstModelTest(run).holds()) wrong++;
        }
        System.out.println("AgainstModelTest: " + runs + " runs, " + wrong + " of them not as the model");
        if (wrong != 0) System.exit(1);
    }

    private boolean holds() {
        for (int i = 0; calls < CALLS; i++) {
            int which = i < 25 ? random.nextInt(4) : random.nextInt(34);
            if (which == 3 && i < 25) which = 6;
            if (!answersAlike(which)) {
                System.out.println("run " + run + told);
                return false;
            }
        }
        return true;
    }

    /** A number up to a bound, now and then an odd one. */
    private int upTo(int most) {
        return random.nextInt(40) == 0 ? ODD[random.nextInt(ODD.length)] : random.nextInt(most + 1);
    }

    private int upToOr(int most, int beyond) {
        return random.nextInt(20) == 0 ? beyond : upTo(most);
    }

    private int town() {
        return random.nextInt(30) == 0 ? upTo(5) : random.nextInt(Math.max(1, model.now.towns.size()));
    }

    private int family() {
        return random.nextInt(30) == 0 ? upTo(9) : random.nextInt(Math.max(1, model.now.families.size()));
    }

    /** What an object answers behind its 512th call is free. */
    private boolean alike(String call, long got, long due) {
        calls++;
        told.append(' ').append(call);
        if (got == due || calls > CALLS) return true;
        told.append(" answered ").append(got).append(", the model ").append(due);
        return false;
    }

    private static String s(Object... parts) {
        StringBuilder b = new StringBuilder().append(parts[0]).append('(');
        for (int i = 1; i < parts.length; i++) b.append(i > 1 ? ", " : "").append(parts[i]);
        return b.append(')').toString();
    }

    private boolean answersAlike(int which) {
        if (which < 11) return towns(which);
        return which < 24 ? rests(which) : others(which);
    }

    private boolean towns(int which) {
        int a, b, c;
        switch (which) {
            case 0:
                if (model.now.towns.size() >= mostTowns && random.nextInt(30) > 0) return text();
                a = random.nextInt(10) == 0 ? upTo(9) : 1 + random.nextInt(5);
                return alike(s("town", a), program.town(a), model.town(a));
            case 1:
                if (model.now.families.size() >= mostFamilies && random.nextInt(30) > 0) return text();
                a = upToOr(3, 4);
                b = random.nextInt(9) == 0 ? upToOr(99, 100) : 10 * (1 + random.nextInt(5));
                c = town();
                return alike(s("family", a, b, c), program.family(a, b, c), model.family(a, b, c));
            case 2: case 3:
                a = town();
                b = upTo(6);
                c = b < 3 ? upToOr(5, 6) : b == 4 ? upToOr(40, 100) : upToOr(random.nextInt(3) == 0 ? 999 : 30, 1000);
                if (b == 3 && random.nextInt(2) == 0) c = 0;
                if (sums && random.nextInt(3) > 0) {
                    b = 5;
                    c = random.nextInt(60);
                }
                return alike(s("put", a, b, c), program.put(a, b, c), model.put(a, b, c));
            case 4:
                a = family();
                b = upTo(6);
                return alike(s("of", a, b), program.of(a, b), model.of(a, b));
            case 5:
                a = town();
                b = upTo(9);
                return alike(s("has", a, b), program.has(a, b), model.has(a, b));
            case 6: case 7:
                return text();
            case 8:
                a = family();
                b = town();
                return alike(s("worth", a, b), program.worth(a, b), model.worth(a, b));
            case 9:
                a = town();
                b = upTo(3);
                return alike(s("choice", a, b), program.choice(a, b), model.choice(a, b));
            default:
                a = town();
                return alike(s("choose", a), program.choose(a), model.choose(a));
        }
    }

    /** A whole text and land(), or a piece of one. */
    private boolean text() {
        String text = randomText();
        for (int i = 0; i < text.length();) {
            int n = Math.min(text.length() - i, 1 + random.nextInt(4));
            int bytes = random.nextInt();
            for (int k = 0; k < n; k++) bytes = bytes << 8 | text.charAt(i++);
            if (!alike(s("feed", bytes, n), program.feed(bytes, n), model.feed(bytes, n))) return false;
        }
        if (random.nextInt(8) == 0) {
            int n = upToOr(4, 5);
            return alike(s("feed", 59, n), program.feed(59, n), model.feed(59, n));
        }
        told.append(" [").append(model.text).append(']');
        return alike("land()", program.land(), model.land());
    }

    private String randomText() {
        StringBuilder b = new StringBuilder();
        int clauses = 1 + random.nextInt(random.nextInt(9) == 0 ? 12 : 9);
        for (int i = 0; i < clauses; i++) {
            if (i > 0) b.append(';');
            b.append(randomClause());
        }
        if (b.length() > 120 && random.nextInt(5) > 0) b.setLength(b.lastIndexOf(";", 119));
        if (random.nextInt(4) == 0) {
            int at = random.nextInt(b.length());
            if (random.nextBoolean()) b.setLength(at);
            else b.setCharAt(at, " ;019!(&|)sitflncmdp<=>~".charAt(random.nextInt(24)));
        }
        return b.toString();
    }

    private String number(int most) {
        String n = "" + random.nextInt(most + 1);
        return random.nextInt(9) == 0 && n.length() < 3 ? "0" + n : n;
    }

    private String randomClause() {
        int sort = random.nextInt(4), good = random.nextInt(3);
        switch (random.nextInt(10)) {
            case 0: case 1: case 2: return "like " + sort + " " + good + " " + number(sums ? 10 : 40);
            case 3: case 4: return "near " + sort + " " + random.nextInt(4) + " " + number(30);
            case 5: return "cost " + good + " " + number(40);
            case 6: return "mile " + number(12);
            case 7: return "dues " + "hie".charAt(random.nextInt(3));
            case 8: return "pick " + "mdo".charAt(random.nextInt(3));
            default: return "shun " + randomE(random.nextInt(4)) + " " + number(30);
        }
    }

    private String randomE(int more) {
        if (more == 0) {
            String letters = "sitf";
            char letter = letters.charAt(random.nextInt(4));
            return "" + letter + "<=>".charAt(random.nextInt(3)) + number(letter == 'i' ? 60 : 4);
        }
        switch (random.nextInt(4)) {
            case 0: return "!" + randomE(more - 1);
            case 1: return "(" + randomE(more - 1) + ")";
            case 2: return randomE(more - 1) + "&" + randomE(0);
            default: return randomE(0) + "|" + randomE(more - 1);
        }
    }

    private boolean rests(int which) {
        int a, b, c;
        boolean votes = random.nextBoolean();
        switch (which) {
            case 11:
                a = upTo(6);
                return alike(s("rest", a), program.rest(a), model.rest(a));
            case 12:
                a = upTo(6);
                return alike(s("broken", a), program.broken(a), model.broken(a));
            case 13:
                a = family();
                b = town();
                return alike(s("go", a, b), program.go(a, b), model.go(a, b));
            case 14:
                return alike(s("step", votes), program.step(votes), model.step(votes));
            case 15:
                return alike(s("end", votes), program.end(votes), model.end(votes));
            case 16:
                return judge();
            case 17:
                a = upTo(6);
                b = random.nextInt(3) == 0 ? -1 : upTo(30);
                c = family();
                return alike(s("all", a, b, c), program.all(a, b, c), model.all(a, b, c));
            case 18:
                a = family();
                return alike(s("good", a), program.good(a), model.good(a));
            case 19:
                return alike("rise()", program.rise(), model.rise());
            case 20:
                a = upTo(3);
                return alike(s("sorted", a), program.sorted(a), model.sorted(a));
            case 21:
                return alike(s("tip", votes), program.tip(votes), model.tip(votes));
            case 22:
                a = upTo(3);
                b = town();
                c = upToOr(50, 1000);
                int price = upToOr(99, 100);
                return alike(s("law", a, b, c, price), program.law(a, b, c, price), model.law(a, b, c, price));
            default:
                a = upToOr(200, 1000);
                return alike(s("mend", a, votes), program.mend(a, votes), model.mend(a, votes));
        }
    }

    /** Now and then with a row put there for it, or nothing would ever be judged. */
    private boolean judge() {
        int tape = upTo(6), i = upToOr(3, -1), kind = upTo(6);
        if (random.nextInt(4) > 0 && tape >= 0 && tape < 6 && i >= 0 && i < 4) {
            int n = i + model.now.families.size() - random.nextInt(2) + random.nextInt(3);
            if (!alike(s("tape", tape, 1, n), program.tape(tape, 1, n), model.tape(tape, 1, n))) return false;
            for (int k = 0; k < n; k++) {
                int v = town();
                if (!alike(s("item", tape, k, v), program.item(tape, k, v), model.item(tape, k, v))) return false;
            }
        }
        return alike(s("judge", tape, i, kind), program.judge(tape, i, kind), model.judge(tape, i, kind));
    }

    private boolean others(int which) {
        int a = upTo(6), b = upTo(6), c;
        switch (which) {
            case 24:
                c = upTo(6);
                return alike(s("edge", a, b, c), program.edge(a, b, c), model.edge(a, b, c));
            case 25:
                c = upToOr(999, 1000);
                return alike(s("year", c), program.year(c), model.year(c));
            case 26:
                c = random.nextBoolean() ? upTo(9) : random.nextInt();
                return alike(s("act", a, b, c), program.act(a, b, c), model.act(a, b, c));
            case 27:
                c = upTo(22);
                return alike(s("trace", c), program.trace(c), model.trace(c));
            case 28:
                return alike(s("taken", a, b), program.taken(a, b), model.taken(a, b));
            case 29:
                c = upTo(7);
                return alike(s("count", c), program.count(c), model.count(c));
            case 30:
                c = upToOr(10, 60);
                return alike(s("tape", a, b - 1, c), program.tape(a, b - 1, c), model.tape(a, b - 1, c));
            case 31:
                long v = random.nextBoolean() ? random.nextLong() : upTo(3);
                return alike(s("item", a, b, v), program.item(a, b, v), model.item(a, b, v));
            case 32:
                return alike(s("read", a, b), program.read(a, b), model.read(a, b));
            default:
                c = upTo(6);
                int j = upTo(6), n = upTo(6);
                return alike(s("shift", a, b, c, j, n), program.shift(a, b, c, j, n), model.shift(a, b, c, j, n));
        }
    }
}
