/** Where nothing is there, and where all is full: each call, and what still goes there. */
public final class EmptyAndFullTest {
    private static final Check CHECK = new Check("EmptyAndFullTest");
    private static final int NONE = -1, STATE = -3, FULL = -4, NOTHING = -11, PLACE = -13;
    private static final long NO = CrossroadsCarts.NO;

    public static void main(String[] args) {
        newObject();
        noFamilies();
        emptyTown();
        noText();
        noLaws();
        emptyTapes();
        noTrace();
        allFamilies();
        allHouses();
        oneHouse();
        allText();
        allLaws();
        allYears();
        allTapes();
        longestTrace();
        CHECK.end();
    }

    private static void due(String call, long got, long want) {
        CHECK.due(call, got, want);
    }

    /** No TOWNS, no FAMILIES: every call on an object of its own. */
    private static void newObject() {
        for (int what = 0; what < 7; what++) due("P1 count(" + what + ")", new CrossroadsCarts().count(what), 0);
        due("P2 the first town", new CrossroadsCarts().town(1), 0);
        due("P3 no town for a family", new CrossroadsCarts().family(0, 10, 0), NONE);
        due("P4 no town", new CrossroadsCarts().put(0, 0, 1), NONE);
        due("P5 no family", new CrossroadsCarts().of(0, 0), NO);
        due("P6 no town", new CrossroadsCarts().has(0, 0), NONE);
        due("P7 no bytes come", new CrossroadsCarts().feed(7, 0), 0);
        due("P8 no text", new CrossroadsCarts().land(), -10);
        due("P9 neither", new CrossroadsCarts().worth(0, 0), NO);
        due("P10 no town", new CrossroadsCarts().choice(0, 0), NONE);
        due("P11 no town", new CrossroadsCarts().choose(0), NONE);
        for (int kind = 1; kind < 6; kind++) {
            due("P12 all of nobody is at rest: " + kind, new CrossroadsCarts().rest(kind), 1);
            due("P13 nothing breaks it: " + kind, new CrossroadsCarts().broken(kind), -5);
            due("P18 no family: " + kind, new CrossroadsCarts().all(kind, -1, 0), NONE);
            due("P25 nothing breaks it: " + kind, new CrossroadsCarts().edge(0, 0, kind), -100);
        }
        due("P14 neither", new CrossroadsCarts().go(0, 0), NONE);
        for (boolean votes : new boolean[] {false, true}) {
            due("P15 no step", new CrossroadsCarts().step(votes), -6);
            due("P16 no steps", new CrossroadsCarts().end(votes), 0);
            due("P22 nobody", new CrossroadsCarts().tip(votes), -5);
            due("P24 no laws", new CrossroadsCarts().mend(999, votes), 0);
        }
        due("P17 no tape's row", new CrossroadsCarts().judge(0, 0, 1), NOTHING);
        due("P19 no family", new CrossroadsCarts().good(0), NONE);
        due("P20 no town", new CrossroadsCarts().rise(), 0);
        due("P21 no pairs", new CrossroadsCarts().sorted(0), 0);
        due("P21 one way to deal nothing", new CrossroadsCarts().sorted(1), 1);
        due("P21 of one", new CrossroadsCarts().sorted(2), 1);
        due("P23 no town", new CrossroadsCarts().law(0, 0, 0, 0), NONE);
        due("P26 nobody comes", new CrossroadsCarts().year(0), 0);
        due("P27 an act of nobody nowhere", new CrossroadsCarts().act(0, 1, 7), 7);
        due("P28 no act yet", new CrossroadsCarts().trace(0), NONE);
        due("P29 kinds are there", new CrossroadsCarts().taken(5, 1), 5);
        for (int tape = 0; tape < 6; tape++) {
            due("P32 tape " + tape + " holds nothing at first", new CrossroadsCarts().item(tape, 0, 1), NOTHING);
            due("P33 tape " + tape, new CrossroadsCarts().read(tape, 0), NO);
            due("P34 tape " + tape, new CrossroadsCarts().shift(tape, 0, tape, 0, 0), NOTHING);
            due("P31 tape " + tape, new CrossroadsCarts().tape(tape, -1, 0), 1);
        }
    }

    private static void noFamilies() {
        CrossroadsCarts x = Check.towns(1, 1);
        int[] has = {1, 0, 0, 0, 0, 0, 0, 0, 0};
        for (int what = 0; what < 9; what++) due("P6 a new town: has(1, " + what + ")", x.has(1, what), has[what]);
        for (int kind = 1; kind < 6; kind++) due("P12 towns alone", x.rest(kind), 1);
        due("P16 towns alone have no steps", x.end(true), 0);
        x.put(1, 2, 4);
        due("P13 a level that nobody wants", x.broken(2), 102);
        due("P15 it is voted away by nobody", x.step(true), -5);
        due("P6 it is gone", x.has(1, 5), 0);
        x.put(0, 3, 1);
        due("P13 a rent that nobody pays", x.broken(3), 1000);
        due("P20 rents from 0 on", x.rise(), 0);
        due("P6 it is gone", x.has(0, 6), 0);
        due("P26 nobody has a child", x.year(0), 0);
        x.law(2, 0, 7, 0);
        due("P24 nobody is the worst off", x.mend(0, true), 0);
    }

    /** A TOWN without FAMILIES: 0. */
    private static void emptyTown() {
        CrossroadsCarts x = Check.families(Check.towns(2, 2), Check.f(0, 10, 0));
        for (String pick : new String[] {"m", "d", "o"}) {
            Check.land(x, "like 0 0 90;like 0 1 90;like 0 2 90;pick " + pick);
            for (int good = 0; good < 3; good++) {
                x.put(1, good, 3);
                due("P10 pick " + pick + ": nobody there", x.choice(1, good), 0);
                due("P10 pick " + pick + ": one is there", x.choice(0, good), 5);
            }
            due("P11 pick " + pick + ": nobody there", x.choose(1), 3);
        }
        due("P6 its cost", x.has(1, 2), 0);
        due("P6 its families", x.has(1, 1), 0);
    }

    private static void noText() {
        CrossroadsCarts x = Check.families(Check.towns(2, 2), Check.f(0, 10, 0));
        due("P8 none was fed", x.land(), -10);
        due("P7 none of none", x.feed(-1, 0), 0);
        due("P8 none again", x.land(), -10);
        due("P30 no lands", x.count(2), 0);
        due("P8 a land", Check.land(x, "mile 6"), 1);
        due("P30 THE TEXT is empty then", x.count(3), 0);
        due("P8 nothing behind a land", x.land(), -10);
        due("P9 it rules on", x.worth(0, 1), -6);
        due("P8 a fault", Check.land(x, "mule 6"), -11);
        due("P30 THE TEXT is empty then, too", x.count(3), 0);
        due("P8 nothing behind a fault", x.land(), -10);
        due("P30 one land", x.count(2), 1);
    }

    private static void noLaws() {
        CrossroadsCarts x = Check.families(Check.towns(1, 1), Check.f(0, 10, 0));
        due("P24 no law, no coin", x.mend(0, false), 0);
        due("P24 no law, all coin", x.mend(999, true), 0);
        due("P30 none", x.count(4), 0);
        due("P23 the first", x.law(2, 1, 0, 0), 0);
        due("P24 it is of no use", x.mend(999, false), 0);
        due("P30 one", x.count(4), 1);
    }

    private static void emptyTapes() {
        for (int sort = 0; sort < 5; sort++) {
            CrossroadsCarts x = new CrossroadsCarts();
            due("P31 a row of none", x.tape(0, sort, 0), 1);
            due("P32 no place in it", x.item(0, 0, 1), PLACE);
            due("P33 no place in it", x.read(0, 0), NO);
            due("P34 none of none", x.shift(0, 0, 0, 0, 0), 0);
            due("P34 one of none", x.shift(0, 0, 0, 0, 1), PLACE);
            due("P31 a row of one", x.tape(0, sort, 1), 1);
            due("P33 it is 0", x.read(0, 0), 0);
            x.item(0, 0, 1);
            due("P31 nothing there any more", x.tape(0, -1, 5), 1);
            due("P33 nothing to read", x.read(0, 0), NO);
            due("P32 nothing to put to", x.item(0, 0, 1), NOTHING);
            due("P34 nothing to take", x.shift(0, 0, 0, 0, 0), NOTHING);
            due("P17 nothing to judge", x.judge(0, 0, 1), NOTHING);
            due("P31 a row of one again", x.tape(0, sort, 1), 1);
            due("P33 it is 0 again", x.read(0, 0), 0);
        }
        CrossroadsCarts y = Check.families(Check.towns(1), Check.f(0, 10, 0));
        y.tape(0, 1, 0);
        due("P17 no place for a family", y.judge(0, 0, 1), PLACE);
    }

    private static void noTrace() {
        CrossroadsCarts x = new CrossroadsCarts();
        due("P28 ahead of all acts", x.trace(0), NONE);
        x.act(1, 1, 1);
        due("P28 the third", x.trace(2), 10);
        x.act(0, 0, 1);
        due("P28 of the latest act alone: the first", x.trace(0), 10);
        due("P28 of the latest act alone: no second", x.trace(1), NONE);
        due("P30 of the latest act alone", x.count(6), 1);
        x.act(6, 0, 1);
        due("P28 none then", x.trace(0), NONE);
    }

    private static void allFamilies() {
        CrossroadsCarts x = Check.towns(8, 8, 8, 8);
        for (int f = 0; f < 8; f++) due("P3 family " + f, x.family(f % 4, 10, f % 4), f);
        for (int town = 0; town < 4; town++) due("P3 a ninth in town " + town, x.family(0, 10, town), FULL);
        due("P30 families", x.count(1), 8);
        due("P2 a fifth town", x.town(8), FULL);
        due("P30 towns", x.count(0), 4);
        due("P26 no child is a ninth", x.year(0), 0);
        due("P5 the eighth", x.of(7, 0), 3);
        due("P21 pairs of eight", x.sorted(0), 4);
        due("P14 the last family to the first town", x.go(7, 0), 3);
        due("P14 the first family to the last town", x.go(0, 3), 0);
        due("P5 where they are", x.of(7, 2) * 10 + x.of(0, 2), 3);
        due("P27 with all of them", x.act(0, 0, 5), 13);
        due("P27 and all towns", x.act(0, 1, 5), 9);
        x.tape(5, 1, 8);
        due("P17 all in the first", x.judge(5, 0, 5), 1);
        x.tape(5, 1, 7);
        due("P17 one place too few", x.judge(5, 0, 5), PLACE);
        x.tape(5, 1, 60);
        due("P17 the last eight places", x.judge(5, 52, 5), 1);
        due("P17 one further", x.judge(5, 53, 5), PLACE);
    }

    /** Nobody can go anywhere, so all is at rest till a house is free. */
    private static void allHouses() {
        CrossroadsCarts x = Check.families(Check.towns(1, 1), Check.f(0, 10, 0), Check.f(0, 10, 1));
        Check.land(x, "like 0 0 3;cost 0 0");
        x.put(1, 0, 5);
        due("P3 no house", x.family(0, 10, 1), STATE);
        due("P12 nobody can go", x.rest(1), 1);
        due("P13 but would", x.broken(3), 1);
        due("P14 nobody can", x.go(0, 1), STATE);
        due("P15 nobody goes", x.step(false), -6);
        due("P22 nobody tips", x.tip(false), -5);
        due("P26 no child", x.year(2), 0);
        due("P2 a third town", x.town(1), 2);
        due("P14 one goes there", x.go(1, 2), 1);
        due("P12 now the other can", x.rest(1), 0);
        due("P15 and does", x.step(false), 0);
        due("P5 there it is", x.of(0, 2), 1);
    }

    /** A TOWN with a free HOUSE gets one more, if there are fewer than 8 in all. */
    private static void oneHouse() {
        CrossroadsCarts x = Check.families(Check.towns(3), Check.f(0, 50, 0), Check.f(0, 50, 0));
        due("P26 the last house", x.year(0), 1);
        due("P5 its sort, income and home", x.of(2, 0) * 1000 + x.of(2, 1) * 10 + x.of(2, 3), 100);
        due("P26 no house is free", x.year(0), 0);
        CrossroadsCarts one = Check.families(Check.towns(3, 3), Check.f(0, 50, 0), Check.f(0, 50, 1));
        due("P26 one of a sort has no child", one.year(0), 0);
        for (int families = 6; families <= 8; families++) {
            CrossroadsCarts y = Check.towns(8, 8, 8);
            for (int f = 0; f < families; f++) y.family(f % 2, 50, f % 2);
            due("P26 of " + families, y.year(0), 8 - families);
            due("P30 then there are", y.count(1), 8);
            due("P26 then none", y.year(0), 0);
        }
    }

    private static void allText() {
        CrossroadsCarts x = Check.families(Check.towns(8, 8), Check.f(0, 10, 0));
        due("the longest text has 120 bytes", Scenes.LONGEST.length(), 120);
        Scenes.feed(x, Scenes.LONGEST);
        due("P30 bytes", x.count(3), 120);
        for (int n = 1; n <= 4; n++) due("P7 " + n + " more", x.feed(59, n), FULL);
        due("P7 none more", x.feed(59, 0), 120);
        due("P8 it is a land", x.land(), 1);
        due("P9 its mile 9", x.worth(0, 1), -9 - 99);
        for (int n = 1; n <= 4; n++) {
            CrossroadsCarts y = new CrossroadsCarts();
            for (int i = 0; i < 120 / n; i++) due("P7 by " + n, y.feed(-1, n), (i + 1) * n);
            due("P7 by " + n + ": no more", y.feed(-1, n), FULL);
            due("P30 all are there", y.count(3), 120);
        }
    }

    private static void allLaws() {
        CrossroadsCarts x = Check.families(Check.towns(2), Check.f(0, 10, 0));
        for (int i = 0; i < 4; i++) due("P23 law " + i, x.law(1, 0, i * 10, 9), i);
        for (int what = 0; what < 3; what++) due("P23 a fifth", x.law(what, 0, 1, 1), FULL);
        due("P30 laws", x.count(4), 4);
        Check.levels(x, 0, 5, 0, 0);
        due("P24 the last of them is best", x.mend(9, false), 8);
    }

    private static void allYears() {
        CrossroadsCarts x = Check.families(Check.towns(1), Check.f(0, 50, 0));
        for (int i = 0; i < 99; i++) {
            due("P30 years", x.count(5), i);
            due("P26 year " + i, x.year(999), 0);
        }
        due("P30 YEAR 99", x.count(5), 99);
        long income = x.of(0, 1);
        for (int seed = 0; seed < 5; seed++) due("P26 no more", x.year(seed), STATE);
        due("P26 nothing changed", x.of(0, 1), income);
        due("P30 still 99", x.count(5), 99);
    }

    private static void allTapes() {
        CrossroadsCarts x = new CrossroadsCarts();
        for (int tape = 0; tape < 6; tape++) {
            due("P31 60 of tape " + tape, x.tape(tape, tape % 5, 60), 1);
            for (int i = 0; i < 60; i += 59) due("P33 all 0", x.read(tape, i), 0);
            due("P32 the last", x.item(tape, 59, 1), 1);
            due("P32 one further", x.item(tape, 60, 1), PLACE);
            due("P33 the last", x.read(tape, 59), 1);
        }
        due("P34 all 60", x.shift(5, 0, 0, 0, 60), 60);
        due("P34 61", x.shift(5, 0, 0, 0, 61), PLACE);
        due("P34 the last to the first", x.shift(0, 59, 5, 0, 1), 1);
        due("P33 it came", x.read(5, 0), 1);
    }

    /** The first 20 are kept; no act runs more than 17 bodies, so all of each are. */
    private static void longestTrace() {
        CrossroadsCarts x = new CrossroadsCarts();
        int most = 0;
        for (int kind = 0; kind < 6; kind++) {
            for (int act = 0; act < 3; act++) {
                x.act(kind, act, 1);
                most = Math.max(most, x.count(6));
                CHECK.due("P28 the last of them is kept", x.trace(x.count(6) - 1) >= 10, true);
                due("P28 behind it none", x.trace(x.count(6)), NONE);
            }
        }
        due("P30 the most bodies", most, 17);
    }
}
