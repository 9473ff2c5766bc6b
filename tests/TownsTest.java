/** Promises 1 to 6: a new object, towns, families. */
public final class TownsTest {
    private static final Check CHECK = new Check("TownsTest");
    private static final long NO = CrossroadsCarts.NO;

    public static void main(String[] args) {
        constants();
        newObject();
        towns();
        families();
        putting();
        ofFamilies();
        hasTowns();
        CHECK.end();
    }

    private static void due(String call, long got, long want) {
        CHECK.due(call, got, want);
    }

    private static void constants() {
        due("NONE", CrossroadsCarts.NONE, -1);
        due("BAD", CrossroadsCarts.BAD, -2);
        due("STATE", CrossroadsCarts.STATE, -3);
        due("FULL", CrossroadsCarts.FULL, -4);
        due("NO", CrossroadsCarts.NO, Long.MIN_VALUE);
    }

    private static void newObject() {
        CrossroadsCarts x = new CrossroadsCarts();
        for (int what = 0; what < 7; what++) due("P1 count(" + what + ")", x.count(what), 0);
        due("P1 of(0, 0)", x.of(0, 0), NO);
        due("P1 has(0, 0)", x.has(0, 0), -1);
        due("P1 trace(0)", x.trace(0), -1);
        for (int tape = 0; tape < 6; tape++) due("P1 item", x.item(tape, 0, 1), -11);
        due("P1 rest(4)", x.rest(4), 1);
        due("P1 step(true)", x.step(true), -6);
        due("P1 end(true)", x.end(true), 0);
        CrossroadsCarts other = new CrossroadsCarts();
        x.town(3);
        due("P1 two objects share nothing", other.count(0), 0);
    }

    private static void towns() {
        CrossroadsCarts x = new CrossroadsCarts();
        int[] bad = {0, 9, -1, Integer.MAX_VALUE, Integer.MIN_VALUE};
        for (int houses : bad) due("P2 town(" + houses + ")", x.town(houses), -2);
        due("P2 town(1)", x.town(1), 0);
        due("P2 town(8)", x.town(8), 1);
        due("P2 town(4)", x.town(4), 2);
        due("P2 town(2)", x.town(2), 3);
        due("P2 a fifth", x.town(2), -4);
        due("P2 a fifth of 9 houses", x.town(9), -2);
        due("P2 count(0)", x.count(0), 4);
        due("P2 houses", x.has(1, 0), 8);
    }

    private static void families() {
        CrossroadsCarts x = Check.towns(2, 8);
        due("P3 NONE is ahead of BAD", x.family(9, 0, 2), -1);
        due("P3 town -1", x.family(0, 10, -1), -1);
        due("P3 sort 4", x.family(4, 10, 0), -2);
        due("P3 sort -1", x.family(-1, 10, 0), -2);
        due("P3 income 0", x.family(0, 0, 0), -2);
        due("P3 income 100", x.family(0, 100, 0), -2);
        x.put(0, 4, 99);
        due("P3 a gate does not hinder one that is new", x.family(3, 1, 0), 0);
        due("P3 family(0, 99, 0)", x.family(0, 99, 0), 1);
        due("P3 no free house", x.family(0, 50, 0), -3);
        due("P3 BAD is ahead of STATE", x.family(0, 100, 0), -2);
        for (int i = 2; i < 8; i++) due("P3 family " + i, x.family(1, 10 + i, 1), i);
        due("P3 a ninth", x.family(1, 10, 1), -4);
        due("P3 a ninth where it is full", x.family(1, 10, 0), -3);
        due("P3 a ninth of no income", x.family(1, 0, 1), -2);
        due("P3 count(1)", x.count(1), 8);
        due("P3 what was refused changed nothing", x.has(0, 1), 2);
    }

    private static void putting() {
        CrossroadsCarts x = Check.towns(2, 8);
        int[] most = {5, 5, 5, 999, 99, 999};
        for (int what = 0; what < 6; what++) {
            due("P4 first put of " + what, x.put(1, what, most[what]), 0);
            due("P4 one too many of " + what, x.put(1, what, most[what] + 1), -2);
            due("P4 -1 of " + what, x.put(1, what, -1), -2);
            due("P4 what was refused is not put", x.put(1, what, 0), most[what]);
            due("P4 the least", x.put(1, what, what + 1 > 5 ? 5 : what + 1), 0);
        }
        due("P4 what 6", x.put(0, 6, 0), -1);
        due("P4 what -1", x.put(0, -1, 0), -1);
        due("P4 town 2", x.put(2, 0, 0), -1);
        due("P4 NONE is ahead of BAD", x.put(2, 0, -9), -1);
        due("P4 the other town is as it was", x.has(0, 3) + x.has(0, 6) + x.has(0, 7) + x.has(0, 8), 0);
        due("P4 level 0", x.has(1, 3), 1);
        due("P4 level 1", x.has(1, 4), 2);
        due("P4 level 2", x.has(1, 5), 3);
        due("P4 rent", x.has(1, 6), 4);
        due("P4 gate", x.has(1, 7), 5);
        due("P4 sum", x.has(1, 8), 5);
    }

    private static void ofFamilies() {
        CrossroadsCarts x = Check.families(Check.towns(2, 8), Check.f(2, 30, 0), Check.f(3, 45, 1));
        x.put(0, 1, 3);
        x.put(0, 3, 4);
        due("P5 sort", x.of(1, 0), 3);
        due("P5 income", x.of(1, 1), 45);
        due("P5 town", x.of(1, 2), 1);
        due("P5 home", x.of(1, 3), 1);
        due("P5 dues", x.of(0, 4), 30);
        due("P5 worth", x.of(0, 5), -34);
        due("P5 go(1, 0)", x.go(1, 0), 1);
        due("P5 town behind that", x.of(1, 2), 0);
        due("P5 home stays", x.of(1, 3), 1);
        due("P5 dues of two", x.of(0, 4), 15);
        due("P5 what 6", x.of(0, 6), NO);
        due("P5 what -1", x.of(0, -1), NO);
        due("P5 family 2", x.of(2, 0), NO);
        due("P5 family -1", x.of(-1, 0), NO);
    }

    private static void hasTowns() {
        CrossroadsCarts x = Check.families(Check.towns(2, 8), Check.f(2, 30, 1), Check.f(3, 45, 1));
        Check.levels(x, 1, 1, 2, 4);
        x.put(1, 3, 11);
        x.put(1, 4, 12);
        x.put(1, 5, 13);
        int[] want = {8, 2, 57, 1, 2, 4, 11, 12, 13};
        for (int what = 0; what < 9; what++) due("P6 has(1, " + what + ")", x.has(1, what), want[what]);
        due("P6 has(0, 1)", x.has(0, 1), 0);
        due("P6 has(1, 9)", x.has(1, 9), -1);
        due("P6 has(1, -1)", x.has(1, -1), -1);
        due("P6 has(2, 0)", x.has(2, 0), -1);
        x.put(1, 5, 71);
        due("P6 a sum above the cost", x.has(1, 2), 0);
    }
}
