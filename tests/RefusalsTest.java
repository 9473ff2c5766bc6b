import java.util.function.Supplier;
import java.util.function.ToLongFunction;

/**
 * Each refusal that a promise names: alone, where several hold at once (the first that the call's words
 * name is told), and that what is answered so changes nothing. Behind a call's name stands in which of
 * the scenes it is done.
 */
public final class RefusalsTest {
    private static final Check CHECK = new Check("RefusalsTest");
    private static final int NONE = -1, BAD = -2, STATE = -3, FULL = -4, NOTHING = -11, CAST = -12, PLACE = -13, SIZE = -14;
    private static final int MANY = -9, MAX = Integer.MAX_VALUE, MIN = Integer.MIN_VALUE;
    private static final long NO = CrossroadsCarts.NO;

    public static void main(String[] args) {
        town();
        family();
        put();
        asked();
        feed();
        land();
        kinds();
        go();
        noStep();
        judge();
        judgedPlaces();
        all();
        good();
        sorted();
        law();
        mendEdgeYear();
        acts();
        taken();
        tape();
        item();
        shift();
        CHECK.end();
    }

    private static void refused(String told, Supplier<CrossroadsCarts> scene, ToLongFunction<CrossroadsCarts> call, long want) {
        Scenes.unchanged(CHECK, told, scene, call, want);
    }

    private static void some(String told, ToLongFunction<CrossroadsCarts> call, long want) {
        refused(told + " (some)", Scenes::some, call, want);
    }

    private static void full(String told, ToLongFunction<CrossroadsCarts> call, long want) {
        refused(told + " (full)", Scenes::full, call, want);
    }

    private static void nothing(String told, ToLongFunction<CrossroadsCarts> call, long want) {
        refused(told + " (nothing)", Scenes::nothing, call, want);
    }

    private static void town() {
        for (int houses : new int[] {0, 9, -1, MAX, MIN}) {
            some("P2 BAD: houses " + houses, x -> x.town(houses), BAD);
            nothing("P2 BAD: houses " + houses, x -> x.town(houses), BAD);
            full("P2 BAD ahead of FULL: houses " + houses, x -> x.town(houses), BAD);
        }
        full("P2 FULL", x -> x.town(1), FULL);
        full("P2 FULL", x -> x.town(8), FULL);
    }

    private static void family() {
        some("P3 NONE: town 3", x -> x.family(0, 10, 3), NONE);
        some("P3 NONE: town -1", x -> x.family(0, 10, -1), NONE);
        nothing("P3 NONE: town 0", x -> x.family(0, 10, 0), NONE);
        some("P3 BAD: sort 4", x -> x.family(4, 10, 1), BAD);
        some("P3 BAD: sort -1", x -> x.family(-1, 10, 1), BAD);
        some("P3 BAD: income 0", x -> x.family(0, 0, 1), BAD);
        some("P3 BAD: income 100", x -> x.family(0, 100, 1), BAD);
        some("P3 BAD: sort and income", x -> x.family(4, 0, 1), BAD);
        some("P3 STATE: no free house", x -> x.family(0, 10, 0), STATE);
        full("P3 FULL: a house is free", x -> x.family(0, 10, 3), FULL);
        some("P3 NONE ahead of BAD: sort", x -> x.family(4, 10, 3), NONE);
        some("P3 NONE ahead of BAD: income", x -> x.family(0, 100, -1), NONE);
        full("P3 NONE ahead of FULL", x -> x.family(0, 10, 4), NONE);
        full("P3 NONE ahead of BAD and FULL", x -> x.family(-1, 0, MAX), NONE);
        some("P3 BAD ahead of STATE: sort", x -> x.family(4, 10, 0), BAD);
        some("P3 BAD ahead of STATE: income", x -> x.family(0, 0, 0), BAD);
        full("P3 BAD ahead of FULL: sort", x -> x.family(4, 10, 3), BAD);
        full("P3 BAD ahead of FULL: income", x -> x.family(0, 100, 3), BAD);
        full("P3 BAD ahead of STATE and FULL", x -> x.family(0, 100, 0), BAD);
        full("P3 STATE ahead of FULL", x -> x.family(0, 10, 0), STATE);
    }

    private static void put() {
        some("P4 NONE: town 3", x -> x.put(3, 0, 1), NONE);
        some("P4 NONE: town -1", x -> x.put(-1, 0, 1), NONE);
        nothing("P4 NONE: town 0", x -> x.put(0, 0, 0), NONE);
        full("P4 NONE: town 4", x -> x.put(4, 0, 1), NONE);
        some("P4 NONE: what 6", x -> x.put(0, 6, 1), NONE);
        some("P4 NONE: what -1", x -> x.put(0, -1, 1), NONE);
        int[] most = {5, 5, 5, 999, 99, 999};
        for (int w = 0; w < 6; w++) {
            int what = w;
            for (int n : new int[] {-1, most[w] + 1, MAX, MIN}) {
                some("P4 BAD: what " + what + ", n " + n, x -> x.put(1, what, n), BAD);
                some("P4 NONE ahead of BAD: what " + what + ", n " + n, x -> x.put(3, what, n), NONE);
            }
        }
        some("P4 NONE of what ahead of BAD", x -> x.put(0, 6, 1000), NONE);
        some("P4 NONE of what ahead of BAD, n -1", x -> x.put(0, -1, -1), NONE);
    }

    private static void asked() {
        for (int f : new int[] {-1, 4, 8, MAX, MIN}) {
            some("P5 NO: family " + f, x -> x.of(f, 0), NO);
            some("P5 NO: family " + f + ", what 6", x -> x.of(f, 6), NO);
            some("P9 NO: family " + f, x -> x.worth(f, 0), NO);
        }
        for (int what : new int[] {-1, 6, MAX, MIN}) some("P5 NO: what " + what, x -> x.of(0, what), NO);
        for (int what : new int[] {-1, 9, MAX, MIN}) some("P6 NONE: what " + what, x -> x.has(0, what), NONE);
        for (int good : new int[] {-1, 3, MAX, MIN}) some("P10 NONE: good " + good, x -> x.choice(0, good), NONE);
        for (int t : new int[] {-1, 3, 4, MAX, MIN}) {
            some("P6 NONE: town " + t, x -> x.has(t, 0), NONE);
            some("P9 NO: town " + t, x -> x.worth(0, t), NO);
            some("P10 NONE: town " + t, x -> x.choice(t, 0), NONE);
            some("P11 NONE: town " + t, x -> x.choose(t), NONE);
        }
        full("P5 NO: family 8", x -> x.of(8, 0), NO);
        full("P6 NONE: town 4", x -> x.has(4, 0), NONE);
        full("P9 NO: family 8", x -> x.worth(8, 0), NO);
        full("P9 NO: town 4", x -> x.worth(0, 4), NO);
        full("P11 NONE: town 4", x -> x.choose(4), NONE);
        for (int i : new int[] {-1, 17, 20, MAX, MIN}) some("P28 NONE: " + i, x -> x.trace(i), NONE);
        for (int what : new int[] {-1, 7, MAX, MIN}) some("P30 BAD: what " + what, x -> x.count(what), BAD);
    }

    private static void feed() {
        for (int n : new int[] {-1, 5, MAX, MIN}) {
            some("P7 BAD: n " + n, x -> x.feed(0x61626364, n), BAD);
            full("P7 BAD ahead of FULL: n " + n, x -> x.feed(0x61626364, n), BAD);
        }
        for (int n = 1; n <= 4; n++) {
            int bytes = n;
            full("P7 FULL: n " + n, x -> x.feed(0x61626364, bytes), FULL);
        }
        for (int free = 0; free <= 4; free++) {
            int has = 120 - free;
            Supplier<CrossroadsCarts> scene = () -> {
                CrossroadsCarts x = Scenes.nothing();
                Scenes.feed(x, Scenes.LONGEST.substring(0, has));
                return x;
            };
            for (int n = 0; n <= 4; n++) {
                int bytes = n;
                if (n > free) refused("P7 FULL: " + n + " behind " + has, scene, x -> x.feed(0, bytes), FULL);
                else CHECK.due("P7 " + n + " behind " + has, scene.get().feed(0, n), has + n);
            }
        }
    }

    /** A fault leaves the land that rules, how many there were, and nothing of THE TEXT. */
    private static void land() {
        CrossroadsCarts x = Scenes.some();
        CrossroadsCarts as = Scenes.some();
        as.land();
        Scenes.feed(as, "x");
        CHECK.due("P8 the fault of what was left", x.land(), -10 - 9);
        CHECK.due("P8 how many lands are left", x.count(2), 1);
        CHECK.due("P8 of THE TEXT nothing is left", x.count(3), 0);
        Scenes.feed(x, "x");
        CHECK.same("P8 nothing else changes by a fault", Scenes.all(x), Scenes.all(as));
        CrossroadsCarts y = Scenes.some();
        long before = y.worth(0, 1);
        y.land();
        CHECK.due("P8 a fault behind mile 9 lets mile 5 rule on", y.worth(0, 1), before);
    }

    private static void kinds() {
        for (int kind : new int[] {0, 6, -1, MAX, MIN}) {
            some("P12 NONE: kind " + kind, x -> x.rest(kind), NONE);
            some("P13 NONE: kind " + kind, x -> x.broken(kind), NONE);
            nothing("P12 NONE: kind " + kind, x -> x.rest(kind), NONE);
            nothing("P13 NONE: kind " + kind, x -> x.broken(kind), NONE);
        }
    }

    private static void go() {
        some("P14 NONE: family 4", x -> x.go(4, 1), NONE);
        some("P14 NONE: family -1", x -> x.go(-1, 1), NONE);
        some("P14 NONE: town 3", x -> x.go(0, 3), NONE);
        some("P14 NONE: town -1", x -> x.go(0, -1), NONE);
        nothing("P14 NONE", x -> x.go(0, 0), NONE);
        full("P14 NONE: family 8", x -> x.go(8, 3), NONE);
        full("P14 NONE: town 4", x -> x.go(0, 4), NONE);
        some("P14 STATE: it is there", x -> x.go(2, 1), STATE);
        some("P14 STATE: it is there, where it is full", x -> x.go(0, 0), STATE);
        some("P14 STATE: no free house", x -> x.go(2, 0), STATE);
        some("P14 STATE: a gate", x -> x.go(1, 2), STATE);
        full("P14 STATE: full, and a gate", x -> x.go(0, 2), STATE);
        some("P14 NONE ahead of STATE: a full town", x -> x.go(4, 0), NONE);
        some("P14 NONE ahead of STATE: a gate", x -> x.go(-1, 2), NONE);
    }

    /** -6: none is done; 0 steps are none either. */
    private static void noStep() {
        Supplier<CrossroadsCarts> still = () -> {
            CrossroadsCarts x = Scenes.full();
            x.end(true);
            return x;
        };
        for (boolean votes : new boolean[] {false, true}) {
            refused("P15 no step, votes " + votes, still, x -> x.step(votes), -6);
            refused("P16 no steps, votes " + votes, still, x -> x.end(votes), 0);
            nothing("P15 no step, votes " + votes, x -> x.step(votes), -6);
        }
    }

    private static void judge() {
        some("P17 NONE: tape 6", x -> x.judge(6, 0, 1), NONE);
        some("P17 NONE: tape -1", x -> x.judge(-1, 0, 1), NONE);
        some("P17 NONE: kind 0", x -> x.judge(1, 0, 0), NONE);
        some("P17 NONE: kind 6", x -> x.judge(1, 0, 6), NONE);
        some("P17 NOTHING", x -> x.judge(5, 0, 1), NOTHING);
        for (int sort : new int[] {0, 2, 3, 4}) {
            some("P17 CAST: sort " + sort, x -> x.judge(sort, 0, 1), CAST);
            some("P17 CAST ahead of PLACE: sort " + sort, x -> x.judge(sort, 9, 1), CAST);
            some("P17 NONE ahead of CAST: sort " + sort, x -> x.judge(sort, 0, 6), NONE);
            some("P17 CAST ahead of STATE: sort " + sort, x -> {
                x.item(sort, 0, 99);
                long answer = x.judge(sort, 0, 1);
                x.item(sort, 0, 0);
                return answer;
            }, CAST);
        }
        some("P17 NONE of tape ahead of PLACE", x -> x.judge(6, -1, 1), NONE);
        some("P17 NONE of kind ahead of NOTHING", x -> x.judge(5, 0, 0), NONE);
        some("P17 NONE of kind ahead of PLACE", x -> x.judge(1, -1, 6), NONE);
        some("P17 NOTHING ahead of PLACE", x -> x.judge(5, -1, 1), NOTHING);
        nothing("P17 NOTHING", x -> x.judge(0, 0, 1), NOTHING);
    }

    /** Tape 1 of some() has six places, so that a row of four begins at 0, 1 or 2. */
    private static void judgedPlaces() {
        for (int i : new int[] {-1, 3, 6, 7, MAX, MAX - 2, MIN}) some("P17 PLACE: " + i, x -> x.judge(1, i, 1), PLACE);
        CHECK.due("P17 place 2 is the last", Scenes.some().judge(1, 2, 1) >= 0, true);
        Supplier<CrossroadsCarts> odd = () -> {
            CrossroadsCarts x = Scenes.some();
            x.item(1, 4, 3);
            x.item(1, 5, -1);
            return x;
        };
        refused("P17 STATE: a town 3", odd, x -> x.judge(1, 1, 1), STATE);
        refused("P17 STATE: a town -1", odd, x -> x.judge(1, 2, 1), STATE);
        refused("P17 PLACE ahead of STATE", odd, x -> x.judge(1, 3, 1), PLACE);
        refused("P17 NONE ahead of STATE", odd, x -> x.judge(1, 2, 0), NONE);
        Supplier<CrossroadsCarts> crowd = () -> {
            CrossroadsCarts x = Scenes.some();
            for (int i = 0; i < 6; i++) x.item(1, i, i < 3 ? 0 : 1);
            return x;
        };
        refused("P17 STATE: three families, two houses", crowd, x -> x.judge(1, 0, 1), STATE);
        CHECK.due("P17 two families, two houses", crowd.get().judge(1, 1, 1) >= 0, true);
        CHECK.due("P17 three families, three houses", crowd.get().judge(1, 2, 1) >= 0, true);
        refused("P17 PLACE ahead of STATE: three families", crowd, x -> x.judge(1, -1, 1), PLACE);
    }

    private static void all() {
        for (int kind : new int[] {0, 6, -1, MAX, MIN}) {
            some("P18 NONE: kind " + kind, x -> x.all(kind, -1, 0), NONE);
            full("P18 NONE of kind ahead of -9: " + kind, x -> x.all(kind, -1, 0), NONE);
        }
        for (int i : new int[] {-2, MIN}) {
            some("P18 NONE: i " + i, x -> x.all(1, i, 0), NONE);
            full("P18 NONE of i ahead of -9: " + i, x -> x.all(1, i, 0), NONE);
        }
        for (int f : new int[] {-1, 4, 8, MAX, MIN}) some("P18 NONE: family " + f, x -> x.all(1, -1, f), NONE);
        for (int f : new int[] {-1, 8, MAX, MIN}) full("P18 NONE of family ahead of -9: " + f, x -> x.all(1, -1, f), NONE);
        full("P18 -9", x -> x.all(1, -1, 0), MANY);
        full("P18 -9 ahead of NONE of no i-th", x -> x.all(1, MAX, 0), MANY);
        int found = Scenes.some().all(1, -1, 0);
        CHECK.due("P18 the last of " + found, Scenes.some().all(1, found - 1, 0) >= 0, true);
        some("P18 NONE: no i-th", x -> x.all(1, found, 0), NONE);
        some("P18 NONE: no i-th", x -> x.all(1, MAX, 0), NONE);
        nothing("P18 NONE: family 0", x -> x.all(1, -1, 0), NONE);
    }

    private static void good() {
        for (int f : new int[] {-1, 4, 8, MAX, MIN}) some("P19 NONE: family " + f, x -> x.good(f), NONE);
        for (int f : new int[] {-1, 8, MAX, MIN}) full("P19 NONE ahead of -9: family " + f, x -> x.good(f), NONE);
        for (int f : new int[] {0, 7}) full("P19 -9: family " + f, x -> x.good(f), MANY);
        nothing("P19 NONE: family 0", x -> x.good(0), NONE);
    }

    private static void sorted() {
        for (int what : new int[] {-1, 3, MAX, MIN}) {
            some("P21 NONE: what " + what, x -> x.sorted(what), NONE);
            full("P21 NONE, no -9: what " + what, x -> x.sorted(what), NONE);
        }
        full("P21 -9: what 1", x -> x.sorted(1), MANY);
        full("P21 -9: what 2", x -> x.sorted(2), MANY);
        full("P21 no -9 of what 0", x -> x.sorted(0), 0);
    }

    private static void law() {
        int[] most = {99, 999, 999};
        for (int w = 0; w < 3; w++) {
            int what = w;
            for (int n : new int[] {-1, most[w] + 1, MAX, MIN}) {
                some("P23 BAD: what " + what + ", n " + n, x -> x.law(what, 0, n, 1), BAD);
                some("P23 NONE of town ahead of BAD: what " + what + ", n " + n, x -> x.law(what, 3, n, 1), NONE);
                full("P23 BAD ahead of FULL: what " + what + ", n " + n, x -> x.law(what, 0, n, 1), BAD);
            }
            for (int price : new int[] {-1, 100, MAX, MIN}) {
                some("P23 BAD: what " + what + ", price " + price, x -> x.law(what, 0, 1, price), BAD);
                some("P23 NONE of town ahead of BAD: price " + price, x -> x.law(what, -1, 1, price), NONE);
                full("P23 BAD ahead of FULL: price " + price, x -> x.law(what, 0, 1, price), BAD);
            }
            full("P23 FULL: what " + what, x -> x.law(what, 0, 1, 1), FULL);
            full("P23 NONE of town ahead of FULL", x -> x.law(what, 4, 1, 1), NONE);
            nothing("P23 NONE: town 0", x -> x.law(what, 0, 1, 1), NONE);
        }
        for (int what : new int[] {-1, 3, MAX, MIN}) {
            some("P23 NONE: what " + what, x -> x.law(what, 0, 1, 1), NONE);
            some("P23 NONE of what ahead of BAD: " + what, x -> x.law(what, 0, -1, 100), NONE);
            full("P23 NONE of what ahead of FULL: " + what, x -> x.law(what, 0, 1, 1), NONE);
        }
    }

    private static void mendEdgeYear() {
        for (int coin : new int[] {-1, 1000, MAX, MIN}) {
            some("P24 BAD: coin " + coin, x -> x.mend(coin, false), BAD);
            some("P24 BAD, with votes: coin " + coin, x -> x.mend(coin, true), BAD);
            nothing("P24 BAD: coin " + coin, x -> x.mend(coin, true), BAD);
        }
        for (int sort : new int[] {-1, 4, MAX, MIN}) some("P25 NONE: sort " + sort, x -> x.edge(sort, 0, 1), NONE);
        for (int good : new int[] {-1, 3, MAX, MIN}) some("P25 NONE: good " + good, x -> x.edge(0, good, 1), NONE);
        for (int kind : new int[] {0, 6, -1, MAX, MIN}) some("P25 NONE: kind " + kind, x -> x.edge(0, 0, kind), NONE);
        for (int seed : new int[] {-1, 1000, MAX, MIN}) {
            some("P26 BAD: seed " + seed, x -> x.year(seed), BAD);
            nothing("P26 BAD: seed " + seed, x -> x.year(seed), BAD);
            full("P26 BAD ahead of STATE: seed " + seed, x -> x.year(seed), BAD);
        }
        full("P26 STATE: it is YEAR 99", x -> x.year(0), STATE);
        full("P26 STATE: it is YEAR 99", x -> x.year(999), STATE);
    }

    /** Such an act answers 0 and leaves no TRACE; all else is as after any act. */
    private static void acts() {
        int[][] none = {{-1, 0}, {6, 0}, {0, -1}, {0, 3}, {-1, 3}, {MAX, MIN}, {MIN, MAX}};
        for (int[] n : none) {
            CrossroadsCarts x = Scenes.some();
            CrossroadsCarts as = Scenes.some();
            String told = "P27 no such: kind " + n[0] + ", act " + n[1];
            CHECK.due("P28 the latest act's trace", x.trace(16), 10);
            CHECK.due(told, x.act(n[0], n[1], 7), 0);
            CHECK.due(told + " leaves no TRACE", x.trace(0), NONE);
            CHECK.due(told + " leaves none at its end", x.trace(16), NONE);
            CHECK.due(told + " leaves no bodies", x.count(6), 0);
            x.act(1, 1, 2);
            as.act(1, 1, 2);
            CHECK.same(told + " changes nothing else", Scenes.all(x), Scenes.all(as));
        }
    }

    private static void taken() {
        for (int odd : new int[] {-1, 6, MAX, MIN}) {
            some("P29 BAD: k " + odd, x -> x.taken(1, odd), BAD);
            some("P29 NOTHING: kind " + odd, x -> x.taken(odd, 0), NOTHING);
            some("P29 BAD ahead of NOTHING: " + odd, x -> x.taken(odd, odd), BAD);
        }
        some("P29 CAST: REST for STAY", x -> x.taken(0, 1), CAST);
        some("P29 CAST: STAY for VOTED", x -> x.taken(1, 2), CAST);
        some("P29 CAST: RENTED for VOTED", x -> x.taken(3, 2), CAST);
        some("P29 CAST: CLUB for SEER", x -> x.taken(5, 4), CAST);
        some("P29 BAD ahead of CAST", x -> x.taken(0, 6), BAD);
    }

    private static void tape() {
        for (int t : new int[] {-1, 6, MAX, MIN}) {
            some("P31 NONE: tape " + t, x -> x.tape(t, 1, 1), NONE);
            some("P31 NONE ahead of BAD: tape " + t, x -> x.tape(t, 5, 61), NONE);
            some("P31 NONE ahead of SIZE: tape " + t, x -> x.tape(t, 1, -1), NONE);
            some("P31 NONE: nothing for tape " + t, x -> x.tape(t, -1, 0), NONE);
        }
        for (int sort : new int[] {-2, 5, MAX, MIN}) {
            some("P31 BAD: sort " + sort, x -> x.tape(1, sort, 1), BAD);
            some("P31 BAD of sort ahead of SIZE: " + sort, x -> x.tape(1, sort, -1), BAD);
        }
        for (int s = 0; s < 5; s++) {
            int sort = s;
            for (int n : new int[] {61, MAX}) some("P31 BAD: n " + n + " of sort " + sort, x -> x.tape(1, sort, n), BAD);
            for (int n : new int[] {-1, MIN}) some("P31 SIZE: n " + n + " of sort " + sort, x -> x.tape(1, sort, n), SIZE);
        }
        for (int n : new int[] {0, 60, 61, -1, MAX, MIN}) CHECK.due("P31 nothing, n " + n, Scenes.some().tape(1, -1, n), 1);
    }

    private static void item() {
        for (int t : new int[] {-1, 6, MAX, MIN}) {
            some("P32 NONE: tape " + t, x -> x.item(t, 0, 1), NONE);
            some("P32 NONE ahead of PLACE: tape " + t, x -> x.item(t, -1, 1), NONE);
            some("P33 NO: tape " + t, x -> x.read(t, 0), NO);
        }
        some("P32 NOTHING", x -> x.item(5, 0, 1), NOTHING);
        some("P32 NOTHING ahead of PLACE", x -> x.item(5, -1, 1), NOTHING);
        some("P33 NO: nothing there", x -> x.read(5, 0), NO);
        for (int s = 0; s < 5; s++) {
            int sort = s;
            for (int i : new int[] {-1, 6, 60, MAX, MIN}) {
                some("P32 PLACE: " + i + " of sort " + sort, x -> x.item(sort, i, 1), PLACE);
                some("P33 NO: place " + i + " of sort " + sort, x -> x.read(sort, i), NO);
            }
        }
    }

    private static void shift() {
        for (int t : new int[] {-1, 6, MAX, MIN}) {
            some("P34 NONE: tape " + t, x -> x.shift(t, 0, 0, 0, 1), NONE);
            some("P34 NONE: other " + t, x -> x.shift(0, 0, t, 0, 1), NONE);
            some("P34 NONE ahead of NOTHING: tape " + t, x -> x.shift(t, 0, 5, 0, 1), NONE);
            some("P34 NONE ahead of NOTHING: other " + t, x -> x.shift(5, 0, t, 0, 1), NONE);
            some("P34 NONE ahead of PLACE: other " + t, x -> x.shift(0, -1, t, 0, 1), NONE);
        }
        some("P34 NOTHING: tape", x -> x.shift(5, 0, 0, 0, 1), NOTHING);
        some("P34 NOTHING: other", x -> x.shift(0, 0, 5, 0, 1), NOTHING);
        some("P34 NOTHING: both", x -> x.shift(5, 0, 5, 0, 0), NOTHING);
        some("P34 NOTHING ahead of PLACE: tape", x -> x.shift(5, -1, 0, 0, 1), NOTHING);
        some("P34 NOTHING ahead of PLACE: other", x -> x.shift(0, 0, 5, 0, -1), NOTHING);
        for (int a = 0; a < 5; a++) {
            for (int b = 0; b < 5; b++) {
                int from = a, to = b;
                if (a == b) continue;
                some("P34 CAST: " + a + " to " + b, x -> x.shift(from, 0, to, 0, 0), CAST);
                some("P34 CAST ahead of PLACE: " + a + " to " + b, x -> x.shift(from, 0, to, 0, 7), CAST);
            }
        }
        int[][] off = {{-1, 0, 1}, {0, -1, 1}, {0, 0, -1}, {0, 0, 7}, {1, 0, 6}, {0, 1, 6}, {6, 0, 1}, {0, 6, 1}, {7, 0, 0}, {0, 7, 0},
            {-1, 0, 0}, {0, -1, 0}, {MAX, 0, 1}, {0, MAX, 1}, {0, 0, MAX}, {1, 1, MAX}, {MAX, MAX, MAX}, {MIN, 0, 1}, {0, MIN, 1}, {0, 0, MIN},
            {7, 7, -1}};
        for (int[] o : off) some("P34 PLACE: i " + o[0] + ", j " + o[1] + ", n " + o[2], x -> x.shift(1, o[0], 1, o[1], o[2]), PLACE);
        full("P34 PLACE: 61 of 60", x -> x.shift(0, 0, 5, 0, 61), PLACE);
        full("P34 PLACE: the last and one more", x -> x.shift(0, 59, 5, 0, 2), PLACE);
    }
}
