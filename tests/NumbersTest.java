import java.util.function.IntToLongFunction;
import java.util.function.Supplier;

/**
 * Each number that a call takes: the last that is allowed and the first that is not, on either side,
 * and the ends of int. What is allowed is taken for what it says.
 */
public final class NumbersTest {
    private static final Check CHECK = new Check("NumbersTest");
    private static final int NONE = -1, BAD = -2, STATE = -3, FULL = -4, NOTHING = -11, PLACE = -13, SIZE = -14;
    private static final int MAX = Integer.MAX_VALUE, MIN = Integer.MIN_VALUE;
    private static final long NO = CrossroadsCarts.NO;

    public static void main(String[] args) {
        houses();
        sortsAndIncomes();
        townNumbers();
        familyNumbers();
        whats();
        puts();
        gates();
        bytes();
        kinds();
        ways();
        laws();
        coins();
        edges();
        seeds();
        incomesStay();
        acts();
        tapes();
        places();
        CHECK.end();
    }

    private static void due(String call, long got, long want) {
        CHECK.due(call, got, want);
    }

    /** All from least to most are taken; one off them and the ends of int are refused. */
    private static void range(String call, IntToLongFunction asking, int least, int most, long below, long above) {
        for (int n = least; n <= most; n++) {
            long got = asking.applyAsLong(n);
            CHECK.due(call + " " + n + " is taken, answered " + got, got != below && got != above, true);
        }
        due(call + " " + (least - 1), asking.applyAsLong(least - 1), below);
        due(call + " " + (most + 1), asking.applyAsLong(most + 1), above);
        due(call + " of the least int", asking.applyAsLong(MIN), below);
        due(call + " of the most int", asking.applyAsLong(MAX), above);
    }

    private static void range(String call, IntToLongFunction asking, int least, int most, long refusal) {
        range(call, asking, least, most, refusal, refusal);
    }

    private static CrossroadsCarts roomy() {
        return Check.families(Check.towns(8, 8, 8), Check.f(0, 10, 0), Check.f(1, 99, 1), Check.f(2, 50, 2));
    }

    private static void houses() {
        range("P2 HOUSES", n -> new CrossroadsCarts().town(n), 1, 8, BAD);
        for (int houses = 1; houses <= 8; houses++) {
            CrossroadsCarts x = Check.towns(houses, 8);
            due("P6 has(0, 0)", x.has(0, 0), houses);
            for (int f = 0; f < houses; f++) due("P3 a house for family " + f + " of " + houses, x.family(0, 10, 0), f);
            due("P3 none for one more than " + houses, x.family(0, 10, 0), STATE);
            due("P6 all are there", x.has(0, 1), houses);
            if (houses == 8) continue;
            due("P3 one elsewhere", x.family(0, 10, 1), houses);
            due("P14 it can't go where all " + houses + " are taken", x.go(houses, 0), STATE);
            due("P14 one leaves", x.go(0, 1), 0);
            due("P14 it can go where one of " + houses + " is free", x.go(houses, 0), 1);
        }
    }

    private static void sortsAndIncomes() {
        range("P3 SORT", n -> roomy().family(n, 10, 0), 0, 3, BAD);
        range("P3 INCOME", n -> roomy().family(0, n, 0), 1, 99, BAD);
        for (int sort = 0; sort < 4; sort++) {
            for (int income : new int[] {1, 99}) {
                CrossroadsCarts x = roomy();
                due("P3 it is the fourth", x.family(sort, income, 2), 3);
                due("P5 its sort", x.of(3, 0), sort);
                due("P5 its income", x.of(3, 1), income);
                due("P5 its town", x.of(3, 2), 2);
                due("P5 its home", x.of(3, 3), 2);
            }
        }
    }

    private static CrossroadsCarts homeless(int towns) {
        CrossroadsCarts x = new CrossroadsCarts();
        for (int t = 0; t < towns; t++) due("P2 the town's number", x.town(8), t);
        return x;
    }

    /** With each number of towns the last is the one ahead of that number. */
    private static void townNumbers() {
        for (int n = 1; n <= 4; n++) {
            int towns = n, last = n - 1;
            range("P3 town, of " + n, t -> homeless(towns).family(0, 10, t), 0, last, NONE);
            range("P4 town, of " + n, t -> homeless(towns).put(t, 0, 1), 0, last, NONE);
            range("P6 town, of " + n, t -> homeless(towns).has(t, 0), 0, last, NONE);
            range("P10 town, of " + n, t -> homeless(towns).choice(t, 0), 0, last, NONE);
            range("P11 town, of " + n, t -> homeless(towns).choose(t), 0, last, NONE);
            range("P23 town, of " + n, t -> homeless(towns).law(0, t, 1, 1), 0, last, NONE);
            range("P9 town, of " + n, t -> Check.families(homeless(towns), Check.f(0, 9, 0)).worth(0, t), 0, last, NO);
            range("P14 town, of " + n, t -> Check.families(homeless(towns), Check.f(0, 9, 0)).go(0, t), 0, last, NONE);
        }
        due("P2 a fifth", homeless(4).town(8), FULL);
    }

    private static CrossroadsCarts crowd(int families) {
        CrossroadsCarts x = Check.towns(8, 8);
        for (int f = 0; f < families; f++) due("P3 the family's number", x.family(f % 4, 10 + f, 0), f);
        return x;
    }

    private static void familyNumbers() {
        for (int n = 1; n <= 8; n++) {
            CrossroadsCarts x = crowd(n);
            int families = n;
            range("P5 family, of " + n, f -> x.of(f, 0), 0, n - 1, NO);
            range("P9 family, of " + n, f -> x.worth(f, 1), 0, n - 1, NO);
            range("P14 family, of " + n, f -> crowd(families).go(f, 1), 0, n - 1, NONE);
            due("P30 families", x.count(1), n);
            if (n > 5) continue;
            range("P18 family, of " + n, f -> x.all(1, 0, f), 0, n - 1, NONE);
            range("P19 family, of " + n, f -> x.good(f), 0, n - 1, NONE);
        }
        due("P3 a ninth", crowd(8).family(0, 10, 0), STATE);
        due("P3 a ninth where a house is free", crowd(8).family(0, 10, 1), FULL);
    }

    private static void whats() {
        CrossroadsCarts x = roomy();
        range("P4 what", n -> roomy().put(0, n, 0), 0, 5, NONE);
        range("P5 what", n -> x.of(0, n), 0, 5, NO);
        range("P6 what", n -> x.has(0, n), 0, 8, NONE);
        range("P10 good", n -> x.choice(0, n), 0, 2, NONE);
        range("P21 what", n -> x.sorted(n), 0, 2, NONE);
        range("P23 what", n -> roomy().law(n, 0, 1, 1), 0, 2, NONE);
        range("P30 what", n -> x.count(n), 0, 6, BAD);
    }

    private static void puts() {
        int[] most = {5, 5, 5, 999, 99, 999};
        int[] asked = {3, 4, 5, 6, 7, 8};
        for (int w = 0; w < 6; w++) {
            int what = w;
            for (int t = 0; t < 3; t++) {
                CrossroadsCarts x = roomy();
                int town = t;
                range("P4 n of what " + w, n -> roomy().put(town, what, n), 0, most[w], BAD);
                x.put(t, w, most[w]);
                due("P6 the last that is taken", x.has(t, asked[w]), most[w]);
                due("P4 it was that", x.put(t, w, 0), most[w]);
                due("P6 0 again", x.has(t, asked[w]), 0);
                due("P4 it was 0", x.put(t, w, 1), 0);
            }
        }
    }

    /** Who has less INCOME than a GATE can't come, who has as much can. */
    private static void gates() {
        for (int gate : new int[] {1, 2, 50, 98, 99}) {
            for (int income : new int[] {gate - 1, gate, gate + 1}) {
                if (income < 1 || income > 99) continue;
                String told = "GATE " + gate + ", INCOME " + income;
                boolean hinders = income < gate;
                CrossroadsCarts x = gated(gate, income);
                due("P12 " + told, x.rest(1), hinders ? 1 : 0);
                due("P13 " + told, x.broken(1), hinders ? -5 : 1);
                due("P15 " + told, x.step(false), hinders ? -6 : 0);
                due("P16 " + told, gated(gate, income).end(false), hinders ? 0 : 1);
                due("P14 " + told, gated(gate, income).go(0, 1), hinders ? STATE : 0);
                CrossroadsCarts full = Check.families(gated(gate, income), Check.f(1, 99, 1));
                due("P13 RENTED, " + told, full.broken(3), hinders ? -5 : 1);
                due("P20 " + told, full.rise(), hinders ? 0 : 9);
            }
        }
    }

    private static CrossroadsCarts gated(int gate, int income) {
        CrossroadsCarts x = Check.families(Check.towns(1, 1), Check.f(0, income, 0));
        Check.land(x, "shun t=0&s=0 9;shun s=1&t=0 20");
        x.put(1, 4, gate);
        return x;
    }

    private static void bytes() {
        range("P7 n", n -> new CrossroadsCarts().feed(0x6C696B65, n), 0, 4, BAD);
        for (int n = 0; n <= 4; n++) {
            CrossroadsCarts x = new CrossroadsCarts();
            String like = "like";
            for (int i = 0; i < 4 - n; i++) x.feed(like.charAt(i), 1);
            due("P7 the lowest " + n + " behind " + (4 - n), x.feed(0x6C696B65, n), 4);
            Scenes.feed(x, " 0 0 1");
            due("P8 they are as told", x.land(), 1);
        }
    }

    private static void kinds() {
        CrossroadsCarts x = roomy();
        Check.row(x, 0, 0, 1, 2);
        range("P12 kind", n -> x.rest(n), 1, 5, NONE);
        range("P13 kind", n -> x.broken(n), 1, 5, NONE);
        range("P17 kind", n -> x.judge(0, 0, n), 1, 5, NONE);
        range("P18 kind", n -> x.all(n, -1, 0), 1, 5, NONE);
        range("P25 kind", n -> x.edge(0, 0, n), 1, 5, NONE);
        range("P29 k", n -> x.taken(5, n), 0, 5, BAD);
        range("P29 kind", n -> x.taken(n, 0), 0, 5, NOTHING);
        for (int kind = 0; kind < 6; kind++) due("P29 for REST", x.taken(kind, 0), kind);
    }

    private static void ways() {
        CrossroadsCarts x = roomy();
        due("P18 27 ways", x.all(1, -1, 0), 27);
        range("P18 i", n -> x.all(1, n, 0), -1, 26, NONE);
        for (int i = 0; i < 27; i++) {
            due("P18 of the " + i + "th", x.all(1, i, 0) * 9 + x.all(1, i, 1) * 3 + x.all(1, i, 2), i);
        }
    }

    private static void laws() {
        int[] most = {99, 999, 999};
        for (int w = 0; w < 3; w++) {
            int what = w;
            range("P23 n of what " + w, n -> roomy().law(what, 0, n, 1), 0, most[w], BAD);
            range("P23 PRICE of what " + w, n -> roomy().law(what, 0, 1, n), 0, 99, BAD);
        }
        CrossroadsCarts x = roomy();
        for (int i = 0; i < 4; i++) due("P23 the law's number", x.law(0, 2, i, i), i);
        due("P23 a fifth", x.law(0, 2, 4, 4), FULL);
        due("P30 laws", x.count(4), 4);
    }

    /** A coin that is the PRICE buys, one less does not. */
    private static void coins() {
        range("P24 coin", n -> roomy().mend(n, false), 0, 999, BAD);
        for (int price = 0; price <= 99; price++) {
            CrossroadsCarts x = Check.families(Check.towns(2), Check.f(0, 10, 0));
            x.put(0, 3, 9);
            due("P23 its PRICE " + price, x.law(2, 0, 0, price), 0);
            due("P24 a coin of its PRICE " + price, x.mend(price, false), 1);
            if (price > 0) due("P24 a coin of one less than " + price, x.mend(price - 1, false), 0);
        }
        CrossroadsCarts all = Check.families(Check.towns(1, 1, 1, 1), Check.f(0, 9, 0), Check.f(0, 9, 1), Check.f(0, 9, 2), Check.f(0, 9, 3));
        for (int town = 0; town < 4; town++) {
            all.put(town, 3, 9);
            all.law(2, town, 0, 99);
        }
        due("P24 396 for all four", all.mend(396, false), 15);
        due("P24 395: three leave the least as it is", all.mend(395, false), 0);
    }

    /** A cost of 11 to 31 needs that much of a change, and one more. */
    private static void edges() {
        CrossroadsCarts some = roomy();
        range("P25 sort", n -> some.edge(n, 0, 2), 0, 3, NONE);
        range("P25 good", n -> some.edge(0, n, 2), 0, 2, NONE);
        for (int cost = 0; cost <= 21; cost++) {
            CrossroadsCarts x = Check.families(Check.towns(1), Check.f(3, 10, 0));
            Check.land(x, "cost 2 " + cost);
            due("P25 up, at a cost of " + cost, x.edge(3, 2, 2), cost < 20 ? cost + 1 : -100);
            CrossroadsCarts y = Check.families(Check.towns(1), Check.f(3, 10, 0));
            Check.land(y, "like 3 2 40;cost 2 " + (40 - cost));
            y.put(0, 2, 5);
            due("P25 down, to a cost of " + (40 - cost), y.edge(3, 2, 2), cost == 0 ? 0 : cost <= 20 ? -cost : -100);
        }
        for (int sort = 0; sort < 4; sort++) {
            CrossroadsCarts x = Check.families(Check.towns(1), Check.f(sort, 10, 0));
            Check.land(x, "cost 0 1;cost 1 2;cost 2 3");
            for (int s = 0; s < 4; s++) {
                for (int g = 0; g < 3; g++) due("P25 edge(" + s + ", " + g + ") of sort " + sort, x.edge(s, g, 2), s == sort ? g + 2 : -100);
            }
        }
    }

    /** (13 times its number, and 7 times the YEAR, and SEED) modulo 5, less 2. */
    private static void seeds() {
        range("P26 SEED", n -> roomy().year(n), 0, 999, BAD);
        for (int seed : new int[] {0, 1, 2, 3, 4, 5, 998, 999}) {
            CrossroadsCarts x = Check.towns(8);
            for (int f = 0; f < 8; f++) x.family(0, 50, 0);
            for (int year = 0; year < 3; year++) {
                long[] ahead = new long[8];
                for (int f = 0; f < 8; f++) ahead[f] = x.of(f, 1);
                due("P26 year", x.year(seed), 0);
                int[] byFamily = {0, 3, 1, 4, 2, 0, 3, 1};
                int[] byYear = {0, 2, 4};
                for (int f = 0; f < 8; f++) {
                    int change = (byFamily[f] + byYear[year] + seed % 5) % 5 - 2;
                    due("P26 INCOME of " + f + " in year " + year + ", SEED " + seed, x.of(f, 1), ahead[f] + change);
                }
            }
        }
    }

    /** 1 .. 99 stays, whatever the change is. */
    private static void incomesStay() {
        for (int income : new int[] {1, 2, 3, 97, 98, 99}) {
            for (int change = -2; change <= 2; change++) {
                CrossroadsCarts x = Check.families(Check.towns(2), Check.f(0, income, 0));
                x.year(change + 2);
                int want = income + change < 1 ? 1 : income + change > 99 ? 99 : income + change;
                due("P26 INCOME " + income + " and " + change, x.of(0, 1), want);
            }
        }
    }

    private static void acts() {
        for (int kind = -1; kind <= 6; kind++) {
            CrossroadsCarts x = roomy();
            for (int act = -1; act <= 3; act++) {
                boolean there = kind >= 0 && kind <= 5 && act >= 0 && act <= 2;
                x.act(kind, act, 4);
                CHECK.due("P27 act(" + kind + ", " + act + ") runs", x.count(6) > 0, there);
                CHECK.due("P28 act(" + kind + ", " + act + ") is traced", x.trace(0) >= 10, there);
            }
        }
        for (int kind = 0; kind <= 5; kind++) {
            CrossroadsCarts x = roomy();
            for (int act = 0; act <= 2; act++) {
                x.act(kind, act, 4);
                range("P28 i of act(" + kind + ", " + act + ")", n -> x.trace(n), 0, x.count(6) - 1, NONE);
            }
        }
    }

    private static void tapes() {
        range("P31 tape", n -> new CrossroadsCarts().tape(n, 0, 1), 0, 5, NONE);
        range("P31 sort", n -> new CrossroadsCarts().tape(0, n, 1), -1, 4, BAD);
        for (int s = 0; s < 5; s++) {
            int sort = s;
            range("P31 n of sort " + s, n -> new CrossroadsCarts().tape(0, sort, n), 0, 60, SIZE, BAD);
        }
        Supplier<CrossroadsCarts> all = () -> {
            CrossroadsCarts x = Check.families(Check.towns(1), Check.f(0, 10, 0));
            for (int tape = 0; tape < 6; tape++) x.tape(tape, 1, 3);
            return x;
        };
        range("P17 tape", n -> all.get().judge(n, 0, 1), 0, 5, NONE);
        range("P32 tape", n -> all.get().item(n, 0, 1), 0, 5, NONE);
        range("P33 tape", n -> all.get().read(n, 0), 0, 5, NO);
        range("P34 tape", n -> all.get().shift(n, 0, 0, 0, 1), 0, 5, NONE);
        range("P34 other", n -> all.get().shift(0, 0, n, 0, 1), 0, 5, NONE);
    }

    private static void places() {
        for (int size = 0; size <= 60; size++) {
            for (int sort = 0; sort < 5; sort++) {
                CrossroadsCarts x = new CrossroadsCarts();
                x.tape(sort, sort, size);
                int tape = sort;
                range("P32 i of " + size, n -> x.item(tape, n, 1), 0, size - 1, PLACE);
                range("P33 i of " + size, n -> x.read(tape, n), 0, size - 1, NO);
            }
            CrossroadsCarts y = new CrossroadsCarts();
            y.tape(0, 1, size);
            y.tape(1, 1, 60);
            range("P34 n from 0, of " + size, n -> y.shift(0, 0, 1, 0, n), 0, size, PLACE);
            range("P34 n to 0, of " + size, n -> y.shift(1, 0, 0, 0, n), 0, size, PLACE);
            range("P34 i of none, of " + size, n -> y.shift(0, n, 1, 0, 0), 0, size, PLACE);
            range("P34 j of none, of " + size, n -> y.shift(1, 0, 0, n, 0), 0, size, PLACE);
            if (size == 0) continue;
            range("P34 i of one, of " + size, n -> y.shift(0, n, 1, 0, 1), 0, size - 1, PLACE);
            range("P34 j of one, of " + size, n -> y.shift(1, 0, 0, n, 1), 0, size - 1, PLACE);
        }
    }
}
