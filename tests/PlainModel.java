import java.util.ArrayList;
import java.util.LinkedHashSet;
import java.util.List;
import java.util.Set;

/**
 * The document said once more, in the plainest way and with all of Java's library: nothing is
 * shared with the program, so that a slip in one of the two shows as an unlike answer.
 */
final class PlainModel {
    static final int NONE = -1, BAD = -2, STATE = -3, FULL = -4;
    static final long NO = Long.MIN_VALUE;

    static final class Town {
        int houses, rent, gate, sum;
        int[] levels = new int[3];

        Town copy() {
            Town t = new Town();
            t.houses = houses;
            t.rent = rent;
            t.gate = gate;
            t.sum = sum;
            t.levels = levels.clone();
            return t;
        }
    }

    static final class Family {
        int sort, income, town, home;

        Family copy() {
            Family f = new Family();
            f.sort = sort;
            f.income = income;
            f.town = town;
            f.home = home;
            return f;
        }
    }

    static final class World {
        final List<Town> towns = new ArrayList<>();
        final List<Family> families = new ArrayList<>();
        List<String> clauses = new ArrayList<>();
        int likeSort = -1, likeGood = -1, likeChange = 0;

        World copy() {
            World w = new World();
            for (Town t : towns) w.towns.add(t.copy());
            for (Family f : families) w.families.add(f.copy());
            w.clauses = clauses;
            w.likeSort = likeSort;
            w.likeGood = likeGood;
            w.likeChange = likeChange;
            return w;
        }

        int clause(String begin, int otherwise) {
            int found = otherwise;
            for (String c : clauses) {
                if (c.startsWith(begin + " ")) found = Integer.parseInt(c.substring(begin.length() + 1));
            }
            return found;
        }

        String word(String begin, String otherwise) {
            String found = otherwise;
            for (String c : clauses) {
                if (c.startsWith(begin + " ")) found = c.substring(begin.length() + 1);
            }
            return found;
        }

        int like(int s, int g) {
            return clause("like " + s + " " + g, 0) + (s == likeSort && g == likeGood ? likeChange : 0);
        }

        List<Family> in(int town) {
            List<Family> there = new ArrayList<>();
            for (Family f : families) if (f.town == town) there.add(f);
            return there;
        }

        boolean full(int town) {
            return in(town).size() >= towns.get(town).houses;
        }

        boolean can(Family f, int town) {
            return f.town != town && !full(town) && f.income >= towns.get(town).gate;
        }

        int cost(int town) {
            Town t = towns.get(town);
            int cost = 0;
            for (int g = 0; g < 3; g++) cost += t.levels[g] * clause("cost " + g, 10);
            return Math.max(0, cost - t.sum);
        }

        int dues(Family f, int town) {
            List<Family> there = in(town);
            if (!there.contains(f)) there.add(f);
            int cost = cost(town);
            String how = word("dues", "h");
            if (how.equals("h")) return cost / there.size();
            if (how.equals("i")) {
                int all = 0;
                for (Family o : there) all += o.income;
                return cost * f.income / all;
            }
            int top = 0;
            for (Family o : there) top = Math.max(top, o.income);
            int such = 0;
            for (Family o : there) if (2 * o.income >= top) such++;
            return 2 * f.income >= top ? cost / such : 0;
        }

        int worth(Family f, int town) {
            Town t = towns.get(town);
            int worth = 0;
            for (int g = 0; g < 3; g++) worth += like(f.sort, g) * t.levels[g];
            int heads = 1;
            for (Family o : in(town)) {
                if (o == f) continue;
                heads++;
                worth += clause("near " + f.sort + " " + o.sort, 0);
            }
            worth -= dues(f, town);
            worth -= t.rent;
            for (String c : clauses) {
                if (!c.startsWith("shun ")) continue;
                String[] parts = c.split(" ");
                if (new Formula(parts[1], f.sort, f.income, town, heads).either()) worth -= Integer.parseInt(parts[2]);
            }
            return worth - clause("mile", 0) * Math.abs(f.home - town);
        }

        int worthHere(Family f) {
            return worth(f, f.town);
        }

        int choice(int town, int good) {
            List<Family> voters = in(town);
            String how = word("pick", "m");
            if (how.equals("o")) {
                List<Family> old = new ArrayList<>();
                for (Family f : voters) if (f.home == town) old.add(f);
                if (!old.isEmpty()) voters = old;
            }
            if (voters.isEmpty()) return 0;
            List<Integer> wants = new ArrayList<>();
            for (Family f : voters) {
                int[] levels = towns.get(town).levels;
                int former = levels[good], best = 0, most = Integer.MIN_VALUE;
                for (int l = 0; l <= 5; l++) {
                    levels[good] = l;
                    int w = worth(f, town);
                    if (w > most) {
                        most = w;
                        best = l;
                    }
                }
                levels[good] = former;
                wants.add(best);
            }
            wants.sort(null);
            if (how.equals("d")) return wants.get((wants.size() - 1) / 2);
            int best = wants.get(0), times = 0;
            for (int l = 0; l <= 5; l++) {
                int n = 0;
                for (int w : wants) if (w == l) n++;
                if (n > times) {
                    times = n;
                    best = l;
                }
            }
            return best;
        }

        int choose(int town) {
            int changed = 0;
            for (int g = 0; g < 3; g++) {
                int to = choice(town, g);
                if (towns.get(town).levels[g] != to) changed++;
                towns.get(town).levels[g] = to;
            }
            return changed;
        }

        String look() {
            StringBuilder s = new StringBuilder();
            for (Family f : families) s.append(f.town).append(' ');
            for (Town t : towns) for (int l : t.levels) s.append(l).append(' ');
            return s.toString();
        }

        int step(boolean votes) {
            String before = look();
            int went = -5;
            for (int i = 0; i < families.size() && went == -5; i++) {
                Family f = families.get(i);
                int best = f.town;
                for (int t = 0; t < towns.size(); t++) {
                    if (can(f, t) && worth(f, t) > worth(f, best)) best = t;
                }
                if (best != f.town) {
                    f.town = best;
                    went = i;
                }
            }
            if (votes) for (int t = 0; t < towns.size(); t++) choose(t);
            return went == -5 && look().equals(before) ? -6 : went;
        }

        int end(boolean votes) {
            List<String> looks = new ArrayList<>();
            looks.add(look());
            int done = 0;
            while (done < 20) {
                if (step(votes) == -6) return done;
                done++;
                int at = looks.indexOf(look());
                if (at >= 0) return 100 + done - at;
                looks.add(look());
            }
            return 200;
        }

        int broken(int kind) {
            for (int i = 0; i < families.size(); i++) {
                Family f = families.get(i);
                for (int t = 0; t < towns.size(); t++) if (can(f, t) && worth(f, t) > worthHere(f)) return 100 * i + t;
            }
            if (kind == 2 || kind == 4) {
                for (int t = 0; t < towns.size(); t++) {
                    for (int g = 0; g < 3; g++) if (choice(t, g) != towns.get(t).levels[g]) return 100 * t + g;
                }
            }
            if (kind == 3) return rented();
            if (kind == 4) return seer();
            return kind == 5 ? club() : -5;
        }

        int rented() {
            for (int i = 0; i < families.size(); i++) {
                Family f = families.get(i);
                for (int t = 0; t < towns.size(); t++) {
                    if (f.town != t && full(t) && f.income >= towns.get(t).gate && worth(f, t) > worthHere(f)) return 100 * i + t;
                }
            }
            for (int t = 0; t < towns.size(); t++) if (!full(t) && towns.get(t).rent > 0) return 1000 + t;
            return -5;
        }

        int seer() {
            for (int i = 0; i < families.size(); i++) {
                for (int t = 0; t < towns.size(); t++) {
                    if (!can(families.get(i), t)) continue;
                    World then = copy();
                    then.families.get(i).town = t;
                    then.choose(t);
                    if (then.worthHere(then.families.get(i)) > worthHere(families.get(i))) return 100 * i + t;
                }
            }
            return -5;
        }

        int club() {
            for (int set = 1; set < 1 << families.size(); set++) {
                List<Integer> members = new ArrayList<>();
                for (int i = 0; i < families.size(); i++) if ((set & 1 << i) != 0) members.add(i);
                if (members.size() < 2 || members.size() > 3) continue;
                for (int t = 0; t < towns.size(); t++) {
                    if (!in(t).isEmpty() || towns.get(t).houses < members.size()) continue;
                    World then = copy();
                    for (int i : members) then.families.get(i).town = t;
                    boolean all = true;
                    for (int i : members) {
                        all = all && families.get(i).income >= towns.get(t).gate
                            && then.worthHere(then.families.get(i)) > worthHere(families.get(i));
                    }
                    if (all) return 100 * members.get(0) + t;
                }
            }
            return -5;
        }

        List<World> ways() {
            List<World> ways = new ArrayList<>();
            fill(copy(), 0, ways);
            return ways;
        }

        private void fill(World w, int i, List<World> ways) {
            if (i == families.size()) {
                for (int t = 0; t < towns.size(); t++) if (w.in(t).size() > towns.get(t).houses) return;
                ways.add(w.copy());
                return;
            }
            for (int t = 0; t < towns.size(); t++) {
                w.families.get(i).town = t;
                fill(w, i + 1, ways);
            }
        }

        int pairs() {
            int n = 0;
            for (int a = 0; a < families.size(); a++) {
                for (int b = a + 1; b < families.size(); b++) {
                    Family f = families.get(a), o = families.get(b);
                    if (f.sort == o.sort && f.town == o.town) n++;
                }
            }
            return n;
        }
    }

    /** An E of a shun for a family that is in a town, or as if it were there. */
    static final class Formula {
        final String text;
        final int s, i, t, f;
        int p = 0;

        Formula(String text, int s, int i, int t, int f) {
            this.text = text;
            this.s = s;
            this.i = i;
            this.t = t;
            this.f = f;
        }

        boolean ahead(char c) {
            return p < text.length() && text.charAt(p) == c;
        }

        boolean either() {
            boolean left = both();
            if (!ahead('|')) return left;
            p++;
            boolean right = either();
            return left || right;
        }

        boolean both() {
            boolean left = one();
            if (!ahead('&')) return left;
            p++;
            boolean right = both();
            return left && right;
        }

        boolean one() {
            char c = text.charAt(p++);
            if (c == '!') return !one();
            if (c == '(') {
                boolean inner = either();
                p++;
                return inner;
            }
            int left = c == 's' ? s : c == 'i' ? i : c == 't' ? t : f;
            char mark = text.charAt(p++);
            int n = 0;
            while (p < text.length() && Character.isDigit(text.charAt(p))) n = 10 * n + text.charAt(p++) - '0';
            return mark == '<' ? left < n : mark == '>' ? left > n : left == n;
        }
    }

    /** The grammar as rules that are tried all at once: which rows of signs could still come. */
    static final class Grammar {
        /** The first place at which no land begins so, or -1: the text is a land. */
        static int fault(String text) {
            Set<List<String>> open = new LinkedHashSet<>();
            open.add(List.of("L10"));
            for (int p = 0; p < text.length(); p++) {
                Set<List<String>> next = new LinkedHashSet<>();
                for (List<String> row : open) for (List<String> wide : widen(row)) {
                    if (!wide.isEmpty() && wide.get(0).indexOf(text.charAt(p)) >= 1) next.add(wide.subList(1, wide.size()));
                }
                if (next.isEmpty()) return p;
                open = next;
            }
            for (List<String> row : open) if (row.isEmpty()) return -1;
            return text.length();
        }

        /** All rows that begin with a sign (a text that begins with a blank-out mark '~') that come of a row. */
        static List<List<String>> widen(List<String> row) {
            List<List<String>> done = new ArrayList<>();
            if (row.isEmpty() || row.get(0).charAt(0) == '~') {
                done.add(row);
                return done;
            }
            for (List<String> to : rules(row.get(0))) {
                List<String> wide = new ArrayList<>(to);
                wide.addAll(row.subList(1, row.size()));
                done.addAll(widen(wide));
            }
            return done;
        }

        static List<List<String>> rules(String name) {
            int n = name.length() > 1 ? Integer.parseInt(name.substring(1)) : 0;
            List<List<String>> to = new ArrayList<>();
            switch (name.charAt(0)) {
                case 'L':
                    to.add(List.of("C"));
                    if (n > 1) to.add(List.of("C", "~;", "L" + (n - 1)));
                    break;
                case 'C':
                    to.add(spelt("like ", "~0123", "~ ", "~012", "~ ", "N"));
                    to.add(spelt("near ", "~0123", "~ ", "~0123", "~ ", "N"));
                    to.add(spelt("cost ", "~012", "~ ", "N"));
                    to.add(spelt("mile ", "N"));
                    to.add(spelt("dues ", "~hie"));
                    to.add(spelt("pick ", "~mdo"));
                    to.add(spelt("shun ", "E0", "~ ", "N"));
                    break;
                case 'N':
                    to.add(List.of("~0123456789"));
                    to.add(List.of("~0123456789", "~0123456789"));
                    to.add(List.of("~0123456789", "~0123456789", "~0123456789"));
                    break;
                case 'E':
                    to.add(List.of("T" + n));
                    to.add(List.of("T" + n, "~|", "E" + n));
                    break;
                case 'T':
                    to.add(List.of("F" + n));
                    to.add(List.of("F" + n, "~&", "T" + n));
                    break;
                default:
                    if (n < 4) to.add(List.of("~!", "F" + (n + 1)));
                    if (n < 4) to.add(List.of("~(", "E" + (n + 1), "~)"));
                    to.add(List.of("~sitf", "~<=>", "N"));
            }
            return to;
        }

        static List<String> spelt(String word, String... more) {
            List<String> row = new ArrayList<>();
            for (char c : word.toCharArray()) row.add("~" + c);
            row.addAll(List.of(more));
            return row;
        }
    }

    // the kinds of rest as real classes, for their acts
    class Rest {
        int holds(int x) { ran(10); return x + now.families.size(); }
        int breaks(int x) { ran(11); return holds(x) - now.towns.size(); }
        int tells(int x) { ran(12); return breaks(x) * 2; }
    }

    class Stay extends Rest {
        @Override int breaks(int x) { ran(20); return super.breaks(x) ^ 5; }
    }

    class Voted extends Stay {
        @Override int holds(int x) { ran(30); return super.holds(x * 3); }
        @Override int tells(int x) { ran(31); return super.tells(x) + breaks(1); }
    }

    class Rented extends Stay {
        @Override int holds(int x) { ran(40); return -super.holds(x); }
    }

    class Seer extends Voted {
        @Override int tells(int x) { ran(50); return super.tells(x - now.families.size()); }
        @Override int breaks(int x) { ran(51); return super.breaks(x) + super.holds(2); }
    }

    class Club extends Stay {
        @Override int breaks(int x) { ran(60); return super.breaks(x + now.towns.size()); }
        @Override int tells(int x) { ran(61); return holds(x) - super.tells(x); }
    }

    final Rest[] kinds = {new Rest(), new Stay(), new Voted(), new Rented(), new Seer(), new Club()};
    final Class<?>[] classes = {Rest.class, Stay.class, Voted.class, Rented.class, Seer.class, Club.class};

    World now = new World();
    String text = "";
    int lands = 0, years = 0;
    final List<int[]> laws = new ArrayList<>();
    final List<Integer> bodies = new ArrayList<>();
    final Object[] tapes = new Object[6];

    void ran(int body) {
        bodies.add(body);
    }

    boolean noTown(int t) {
        return t < 0 || t >= now.towns.size();
    }

    boolean noFamily(int f) {
        return f < 0 || f >= now.families.size();
    }

    int town(int houses) {
        if (houses < 1 || houses > 8) return BAD;
        if (now.towns.size() == 4) return FULL;
        Town t = new Town();
        t.houses = houses;
        now.towns.add(t);
        return now.towns.size() - 1;
    }

    int family(int sort, int income, int town) {
        if (noTown(town)) return NONE;
        if (sort < 0 || sort > 3 || income < 1 || income > 99) return BAD;
        if (now.full(town)) return STATE;
        if (now.families.size() == 8) return FULL;
        Family f = new Family();
        f.sort = sort;
        f.income = income;
        f.town = town;
        f.home = town;
        now.families.add(f);
        return now.families.size() - 1;
    }

    int put(int town, int what, int n) {
        if (noTown(town) || what < 0 || what > 5) return NONE;
        int[] most = {5, 5, 5, 999, 99, 999};
        if (n < 0 || n > most[what]) return BAD;
        Town t = now.towns.get(town);
        int was;
        if (what == 3) {
            was = t.rent;
            t.rent = n;
        } else if (what == 4) {
            was = t.gate;
            t.gate = n;
        } else if (what == 5) {
            was = t.sum;
            t.sum = n;
        } else {
            was = t.levels[what];
            t.levels[what] = n;
        }
        return was;
    }

    long of(int family, int what) {
        if (noFamily(family) || what < 0 || what > 5) return NO;
        Family f = now.families.get(family);
        return new int[] {f.sort, f.income, f.town, f.home, now.dues(f, f.town), now.worthHere(f)}[what];
    }

    int has(int town, int what) {
        if (noTown(town) || what < 0 || what > 8) return NONE;
        Town t = now.towns.get(town);
        return new int[] {t.houses, now.in(town).size(), now.cost(town), t.levels[0], t.levels[1], t.levels[2],
            t.rent, t.gate, t.sum}[what];
    }

    int feed(int bytes, int n) {
        if (n < 0 || n > 4) return BAD;
        if (text.length() + n > 120) return FULL;
        byte[] row = java.nio.ByteBuffer.allocate(4).putInt(bytes).array();
        for (int i = 4 - n; i < 4; i++) text += (char) (row[i] & 255);
        return text.length();
    }

    int land() {
        String read = text;
        text = "";
        int fault = Grammar.fault(read);
        if (fault >= 0) return -10 - fault;
        now.clauses = List.of(read.split(";"));
        return ++lands;
    }

    long worth(int family, int town) {
        return noFamily(family) || noTown(town) ? NO : now.worth(now.families.get(family), town);
    }

    int choice(int town, int good) {
        return noTown(town) || good < 0 || good > 2 ? NONE : now.choice(town, good);
    }

    int choose(int town) {
        return noTown(town) ? NONE : now.choose(town);
    }

    int rest(int kind) {
        return kind < 1 || kind > 5 ? NONE : now.broken(kind) == -5 ? 1 : 0;
    }

    int broken(int kind) {
        return kind < 1 || kind > 5 ? NONE : now.broken(kind);
    }

    int go(int family, int town) {
        if (noFamily(family) || noTown(town)) return NONE;
        Family f = now.families.get(family);
        if (!now.can(f, town)) return STATE;
        int was = f.town;
        f.town = town;
        return was;
    }

    int step(boolean votes) {
        return now.step(votes);
    }

    int end(boolean votes) {
        return now.end(votes);
    }

    int judge(int tape, int i, int kind) {
        if (tape < 0 || tape > 5 || kind < 1 || kind > 5) return NONE;
        if (tapes[tape] == null) return -11;
        if (!(tapes[tape] instanceof short[])) return -12;
        short[] row = (short[]) tapes[tape];
        if (i < 0 || (long) i + now.families.size() > row.length) return -13;
        World w = now.copy();
        for (int f = 0; f < w.families.size(); f++) {
            if (noTown(row[i + f])) return STATE;
            w.families.get(f).town = row[i + f];
        }
        for (int t = 0; t < w.towns.size(); t++) if (w.in(t).size() > w.towns.get(t).houses) return STATE;
        return w.broken(kind) == -5 ? 1 : 0;
    }

    boolean tooMany() {
        return now.families.size() > 5 || now.towns.size() > 3;
    }

    int all(int kind, int i, int family) {
        if (kind < 1 || kind > 5 || noFamily(family) || i < -1) return NONE;
        if (tooMany()) return -9;
        List<World> rests = new ArrayList<>();
        for (World w : now.ways()) if (w.broken(kind) == -5) rests.add(w);
        if (i == -1) return rests.size();
        return i < rests.size() ? rests.get(i).families.get(family).town : NONE;
    }

    int good(int family) {
        if (noFamily(family)) return NONE;
        if (tooMany()) return -9;
        World best = null;
        long most = 0;
        for (World w : now.ways()) {
            long sum = 0;
            for (Family f : w.families) sum += w.worthHere(f);
            if (best == null || sum > most) {
                most = sum;
                best = w;
            }
        }
        return best.families.get(family).town;
    }

    int rise() {
        for (Town t : now.towns) t.rent = 0;
        int times = 0;
        boolean rose = true;
        while (rose && times < 200) {
            rose = false;
            for (int t = 0; t < now.towns.size() && !rose; t++) {
                int n = now.in(t).size();
                for (Family f : now.families) {
                    if (f.town != t && f.income >= now.towns.get(t).gate && now.worth(f, t) > now.worthHere(f)) n++;
                }
                if (n > now.towns.get(t).houses) {
                    now.towns.get(t).rent++;
                    times++;
                    rose = true;
                }
            }
        }
        return times;
    }

    int sorted(int what) {
        if (what < 0 || what > 2) return NONE;
        if (what == 0) return now.pairs();
        if (now.families.size() > 7) return -9;
        int[] counts = new int[2];
        List<Integer> sorts = new ArrayList<>();
        for (Family f : now.families) sorts.add(f.sort);
        deal(now.copy(), sorts, 0, now.pairs(), counts);
        return counts[what - 1];
    }

    private void deal(World w, List<Integer> left, int i, int pairs, int[] counts) {
        if (left.isEmpty()) {
            counts[1]++;
            if (w.pairs() >= pairs) counts[0]++;
        }
        for (int k = 0; k < left.size(); k++) {
            List<Integer> fewer = new ArrayList<>(left);
            w.families.get(i).sort = fewer.remove(k);
            deal(w, fewer, i + 1, pairs, counts);
        }
    }

    int tip(boolean votes) {
        World plain = now.copy();
        plain.end(votes);
        for (int f = 0; f < now.families.size(); f++) {
            for (int t = 0; t < now.towns.size(); t++) {
                if (!now.can(now.families.get(f), t)) continue;
                World w = now.copy();
                w.families.get(f).town = t;
                w.end(votes);
                for (int o = 0; o < now.families.size(); o++) {
                    if (o != f && w.families.get(o).town != plain.families.get(o).town) return 100 * f + t;
                }
            }
        }
        return -5;
    }

    int law(int what, int town, int n, int price) {
        if (what < 0 || what > 2 || noTown(town)) return NONE;
        if (n < 0 || n > (what == 0 ? 99 : 999) || price < 0 || price > 99) return BAD;
        if (laws.size() == 4) return FULL;
        laws.add(new int[] {what, town, n, price});
        return laws.size() - 1;
    }

    int mend(int coin, boolean votes) {
        if (coin < 0 || coin > 999) return BAD;
        int best = -1, bestPrice = 0;
        long bestLeast = 0;
        for (int set = 0; set < 1 << laws.size(); set++) {
            World w = now.copy();
            int price = 0;
            Set<String> seen = new LinkedHashSet<>();
            boolean twice = false;
            for (int i = 0; i < laws.size(); i++) {
                if ((set & 1 << i) == 0) continue;
                int[] law = laws.get(i);
                twice |= !seen.add(law[0] + " " + law[1]);
                price += law[3];
                Town t = w.towns.get(law[1]);
                if (law[0] == 0) t.gate = law[2];
                if (law[0] == 1) t.sum = law[2];
                if (law[0] == 2) t.rent = law[2];
            }
            if (twice || price > coin) continue;
            w.end(votes);
            long least = Long.MAX_VALUE;
            for (Family f : w.families) least = Math.min(least, w.worthHere(f));
            if (best < 0 || least > bestLeast || least == bestLeast && price < bestPrice) {
                best = set;
                bestPrice = price;
                bestLeast = least;
            }
        }
        return best;
    }

    int edge(int sort, int good, int kind) {
        if (sort < 0 || sort > 3 || good < 0 || good > 2 || kind < 1 || kind > 5) return NONE;
        if (now.broken(kind) != -5) return 0;
        for (int size = 1; size <= 20; size++) {
            for (int change : new int[] {-size, size}) {
                World w = now.copy();
                w.likeSort = sort;
                w.likeGood = good;
                w.likeChange = change;
                if (w.broken(kind) != -5) return change;
            }
        }
        return -100;
    }

    int year(int seed) {
        if (seed < 0 || seed > 999) return BAD;
        if (years == 99) return STATE;
        for (int f = 0; f < now.families.size(); f++) {
            Family one = now.families.get(f);
            one.income += (13 * f + 7 * years + seed) % 5 - 2;
            if (one.income < 1) one.income = 1;
            if (one.income > 99) one.income = 99;
        }
        years++;
        int came = 0;
        for (int t = 0; t < now.towns.size(); t++) {
            for (int s = 0; s < 4; s++) {
                int n = 0;
                for (Family f : now.in(t)) if (f.sort == s) n++;
                if (n < 2) continue;
                if (family(s, 10, t) >= 0) came++;
                break;
            }
        }
        return came;
    }

    int act(int kind, int act, int x) {
        bodies.clear();
        if (kind < 0 || kind > 5 || act < 0 || act > 2) return 0;
        Rest rest = kinds[kind];
        return act == 0 ? rest.holds(x) : act == 1 ? rest.breaks(x) : rest.tells(x);
    }

    int trace(int i) {
        return i < 0 || i >= Math.min(20, bodies.size()) ? NONE : bodies.get(i);
    }

    int taken(int kind, int k) {
        if (k < 0 || k > 5) return BAD;
        if (kind < 0 || kind > 5) return -11;
        return classes[k].isInstance(kinds[kind]) ? kind : -12;
    }

    int count(int what) {
        if (what < 0 || what > 6) return BAD;
        return new int[] {now.towns.size(), now.families.size(), lands, text.length(), laws.size(), years, bodies.size()}[what];
    }

    int tape(int tape, int sort, int n) {
        if (tape < 0 || tape > 5) return NONE;
        if (sort < -1 || sort > 4) return BAD;
        if (sort == -1) {
            tapes[tape] = null;
            return 1;
        }
        if (n > 60) return BAD;
        if (n < 0) return -14;
        Class<?>[] of = {byte.class, short.class, int.class, long.class, boolean.class};
        tapes[tape] = java.lang.reflect.Array.newInstance(of[sort], n);
        return 1;
    }

    int item(int tape, int i, long v) {
        if (tape < 0 || tape > 5) return NONE;
        Object row = tapes[tape];
        if (row == null) return -11;
        if (i < 0 || i >= java.lang.reflect.Array.getLength(row)) return -13;
        if (row instanceof byte[] b) b[i] = (byte) v;
        if (row instanceof short[] s) s[i] = (short) v;
        if (row instanceof int[] n) n[i] = (int) v;
        if (row instanceof long[] l) l[i] = v;
        if (row instanceof boolean[] z) z[i] = v != 0;
        return 1;
    }

    long read(int tape, int i) {
        if (tape < 0 || tape > 5 || tapes[tape] == null) return NO;
        Object row = tapes[tape];
        if (i < 0 || i >= java.lang.reflect.Array.getLength(row)) return NO;
        if (row instanceof boolean[] z) return z[i] ? 1 : 0;
        return java.lang.reflect.Array.getLong(row, i);
    }

    int shift(int tape, int i, int other, int j, int n) {
        if (tape < 0 || tape > 5 || other < 0 || other > 5) return NONE;
        if (tapes[tape] == null || tapes[other] == null) return -11;
        try {
            System.arraycopy(tapes[tape], i, tapes[other], j, n);
        } catch (ArrayStoreException e) {
            return -12;
        } catch (IndexOutOfBoundsException e) {
            return -13;
        }
        return n;
    }
}
