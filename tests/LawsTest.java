/** Promises 23 to 26: laws, mending, edges, years. */
public final class LawsTest {
    private static final Check CHECK = new Check("LawsTest");

    public static void main(String[] args) {
        making();
        mending();
        mendingByGates();
        edges();
        edgeEitherWay();
        incomes();
        births();
        allYears();
        CHECK.end();
    }

    private static void due(String call, long got, long want) {
        CHECK.due(call, got, want);
    }

    private static void making() {
        CrossroadsCarts x = Check.towns(2, 2);
        due("P23 what 3", x.law(3, 0, 1, 1), -1);
        due("P23 what -1", x.law(-1, 0, 1, 1), -1);
        due("P23 town 2", x.law(0, 2, 1, 1), -1);
        due("P23 NONE is ahead of BAD", x.law(0, 2, -1, 1), -1);
        due("P23 gate 100", x.law(0, 0, 100, 1), -2);
        due("P23 sum 1000", x.law(1, 0, 1000, 1), -2);
        due("P23 rent 1000", x.law(2, 0, 1000, 1), -2);
        due("P23 n -1", x.law(2, 0, -1, 1), -2);
        due("P23 price 100", x.law(2, 0, 1, 100), -2);
        due("P23 price -1", x.law(2, 0, 1, -1), -2);
        due("P23 gate 99", x.law(0, 0, 99, 99), 0);
        due("P23 sum 999", x.law(1, 1, 999, 0), 1);
        due("P23 rent 999", x.law(2, 1, 999, 1), 2);
        due("P23 one as another", x.law(2, 1, 999, 1), 3);
        due("P23 a fifth", x.law(0, 0, 1, 1), -4);
        due("P23 BAD is ahead of FULL", x.law(0, 0, 100, 1), -2);
        due("P23 laws", x.count(4), 4);
        due("P23 a law puts nothing by itself", x.has(0, 7) + x.has(1, 8) + x.has(1, 6), 0);
    }

    private static void mending() {
        CrossroadsCarts x = Check.families(Check.towns(2), Check.f(0, 10, 0));
        due("P24 without laws", x.mend(999, true), 0);
        due("P24 coin -1", x.mend(-1, true), -2);
        due("P24 coin 1000", x.mend(1000, true), -2);
        x.put(0, 0, 4);
        x.law(1, 0, 40, 10);
        x.law(1, 0, 20, 3);
        due("P24 no coin", x.mend(2, false), 0);
        due("P24 the lesser sum", x.mend(3, false), 2);
        due("P24 the greater sum", x.mend(10, false), 1);
        due("P24 not both of one sort and town", x.mend(20, false), 1);
        due("P24 nothing is put by that", x.has(0, 8), 0);
        x.law(1, 0, 999, 9);
        due("P24 as well, for less", x.mend(20, false), 4);
        x.law(1, 0, 500, 9);
        due("P24 as well for as much: the least as bits", x.mend(20, false), 4);
        due("P24 with votes none is needed", x.mend(20, true), 0);
        CrossroadsCarts empty = Check.towns(2);
        empty.law(2, 0, 0, 0);
        due("P24 without families the cheapest, the least", empty.mend(9, true), 0);
    }

    private static void mendingByGates() {
        CrossroadsCarts x = Check.families(Check.towns(2, 2), Check.f(0, 50, 0), Check.f(1, 10, 1), Check.f(2, 10, 1));
        Check.land(x, "near 1 0 9;shun s=0&f>1 30");
        x.put(0, 3, 7);
        x.law(2, 1, 40, 5);
        x.law(0, 0, 20, 20);
        x.law(2, 0, 0, 20);
        due("P24 the one who is followed has the least", x.mend(19, false), 0);
        due("P24 a gate, behind END", x.mend(20, false), 2);
        due("P24 a gate and a rent", x.mend(40, false), 6);
        due("P24 END is done but for once", x.of(1, 2), 1);
        due("P24 without laws one comes and the other flees", x.end(false), 2);
        due("P24 as badly off as that", x.of(0, 5), -30);
    }

    private static void edges() {
        CrossroadsCarts x = Check.families(Check.towns(2), Check.f(0, 10, 0));
        due("P25 sort 4", x.edge(4, 0, 2), -1);
        due("P25 sort -1", x.edge(-1, 0, 2), -1);
        due("P25 good 3", x.edge(0, 3, 2), -1);
        due("P25 good -1", x.edge(0, -1, 2), -1);
        due("P25 kind 0", x.edge(0, 0, 0), -1);
        due("P25 kind 6", x.edge(0, 0, 6), -1);
        due("P25 of a cost of 10, 11 would be worth it", x.edge(0, 0, 2), 11);
        due("P25 the sort of no family", x.edge(1, 0, 2), -100);
        due("P25 nothing breaks STAY of one town", x.edge(0, 0, 1), -100);
        Check.land(x, "like 0 0 12");
        due("P25 it is not as it is", x.edge(0, 0, 2), 0);
        due("P25 nor by another like", x.edge(0, 1, 2), 0);
        x.choose(0);
        due("P25 two less", x.edge(0, 0, 2), -2);
        due("P25 the like is as it was", x.of(0, 5), 10);
        due("P25 SEER is VOTED, too", x.edge(0, 0, 4), -2);
        Check.land(x, "cost 0 20");
        x.choose(0);
        due("P25 21 are too many", x.edge(0, 0, 2), -100);
        Check.land(x, "cost 0 19");
        due("P25 20 are not", x.edge(0, 0, 2), 20);
    }

    private static void edgeEitherWay() {
        CrossroadsCarts x = Check.families(Check.towns(3, 3), Check.f(0, 10, 0), Check.f(0, 10, 1));
        Check.land(x, "like 0 0 5;cost 0 0;mile 2");
        x.put(0, 0, 1);
        x.put(0, 3, 5);
        due("P25 of two of one size the one less", x.edge(0, 0, 1), -3);
        x.put(0, 3, 4);
        due("P25 the lesser size first", x.edge(0, 0, 1), 2);
        CrossroadsCarts y = Check.families(Check.towns(3, 3), Check.f(0, 10, 0));
        y.put(1, 0, 1);
        Check.land(y, "cost 0 0;shun t=0 4");
        y.put(1, 3, 9);
        due("P25 a like below 0", y.edge(0, 0, 1), 6);
        y.put(1, 3, 0);
        due("P25 it goes as it is", y.edge(0, 0, 1), 0);
        CrossroadsCarts z = Check.families(Check.towns(3, 3), Check.f(0, 10, 1));
        z.put(1, 0, 1);
        Check.land(z, "cost 0 0;mile 4");
        due("P25 a like of 0 becomes less, too", z.edge(0, 0, 1), -5);
    }

    private static void incomes() {
        CrossroadsCarts x = Check.families(Check.towns(8), Check.f(0, 50, 0), Check.f(1, 50, 0), Check.f(2, 50, 0), Check.f(3, 50, 0));
        due("P26 seed 1000", x.year(1000), -2);
        due("P26 seed -1", x.year(-1), -2);
        due("P26 no year went by", x.count(5), 0);
        due("P26 year(3)", x.year(3), 0);
        int[] first = {51, 49, 52, 50};
        for (int f = 0; f < 4; f++) due("P26 income of " + f, x.of(f, 1), first[f]);
        due("P26 year(999)", x.year(999), 0);
        int[] second = {50, 51, 52, 48};
        for (int f = 0; f < 4; f++) due("P26 then of " + f, x.of(f, 1), second[f]);
        due("P26 years", x.count(5), 2);
        CrossroadsCarts y = Check.families(Check.towns(8), Check.f(0, 1, 0), Check.f(1, 99, 0), Check.f(2, 2, 0));
        y.year(0);
        due("P26 1 at least", y.of(0, 1), 1);
        due("P26 99 at most", y.of(1, 1), 99);
        due("P26 one less", y.of(2, 1), 1);
        y.year(2);
        due("P26 2 more", y.of(0, 1), 3);
    }

    private static void births() {
        CrossroadsCarts x = Check.families(Check.towns(3, 2, 8), Check.f(3, 50, 0), Check.f(3, 50, 0), Check.f(1, 50, 1), Check.f(1, 50, 1),
            Check.f(2, 50, 2), Check.f(2, 50, 2));
        x.put(0, 4, 99);
        due("P26 one each where a house is free", x.year(0), 2);
        due("P26 the first of them", x.of(6, 0) * 100 + x.of(6, 1), 310);
        due("P26 a gate does not hinder it", x.of(6, 2), 0);
        due("P26 the second", x.of(7, 0) * 100 + x.of(7, 2) * 10 + x.of(7, 3), 222);
        due("P26 there are 8", x.year(0), 0);
        CrossroadsCarts y = Check.families(Check.towns(8), Check.f(3, 50, 0), Check.f(1, 50, 0), Check.f(3, 50, 0));
        due("P26 the sort of which there are two", y.year(0), 1);
        due("P26 it", y.of(3, 0), 3);
        due("P26 another", y.family(1, 20, 0), 4);
        due("P26 one more", y.year(0), 1);
        due("P26 of several the least sort", y.of(5, 0), 1);
        CrossroadsCarts z = Check.families(Check.towns(4, 4), Check.f(0, 9, 0), Check.f(0, 9, 0), Check.f(0, 9, 0), Check.f(1, 9, 1), Check.f(1, 9, 1),
            Check.f(1, 9, 1), Check.f(2, 9, 0));
        due("P26 no more than 8", z.year(0), 1);
        due("P26 no free house in the first", z.of(7, 2), 1);
    }

    private static void allYears() {
        CrossroadsCarts x = new CrossroadsCarts();
        for (int i = 0; i < 99; i++) due("P26 year " + i, x.year(i), 0);
        due("P26 it is year 99", x.year(0), -3);
        due("P26 BAD is ahead of STATE", x.year(-1), -2);
        due("P26 years", x.count(5), 99);
    }
}
