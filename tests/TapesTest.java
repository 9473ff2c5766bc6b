/** Promises 31 to 34: tapes, their items, and shifts. */
public final class TapesTest {
    private static final Check CHECK = new Check("TapesTest");
    private static final long NO = CrossroadsCarts.NO;
    private static final int MAX = Integer.MAX_VALUE, MIN = Integer.MIN_VALUE;

    public static void main(String[] args) {
        making();
        items();
        reading();
        shifting();
        refusals();
        CHECK.end();
    }

    private static void due(String call, long got, long want) {
        CHECK.due(call, got, want);
    }

    private static void making() {
        CrossroadsCarts x = new CrossroadsCarts();
        due("P31 tape 6", x.tape(6, 9, 99), -1);
        due("P31 tape -1", x.tape(-1, 0, 1), -1);
        due("P31 sort 5", x.tape(0, 5, 1), -2);
        due("P31 sort -2", x.tape(0, -2, 1), -2);
        due("P31 n 61", x.tape(0, 0, 61), -2);
        due("P31 n -1", x.tape(0, 0, -1), -14);
        due("P31 n least", x.tape(0, 0, MIN), -14);
        due("P31 BAD is ahead of SIZE", x.tape(0, 5, -1), -2);
        due("P31 nothing came of that", x.item(0, 0, 1), -11);
        due("P31 60 bytes", x.tape(0, 0, 60), 1);
        due("P31 the last is 0", x.read(0, 59), 0);
        due("P31 no items", x.tape(5, 4, 0), 1);
        due("P31 it has no place 0", x.read(5, 0), NO);
        x.item(0, 3, 7);
        due("P31 anew", x.tape(0, 2, 5), 1);
        due("P31 all 0", x.read(0, 3), 0);
        due("P31 only 5", x.read(0, 5), NO);
        due("P31 nothing, whatever n is", x.tape(0, -1, 99), 1);
        due("P31 nothing is there", x.item(0, 0, 1), -11);
        due("P31 nothing, n below 0", x.tape(0, -1, -99), 1);
    }

    private static void items() {
        CrossroadsCarts x = new CrossroadsCarts();
        for (int sort = 0; sort < 5; sort++) x.tape(sort, sort, 3);
        long v = 0x7123456789ABCDEFL;
        long[] kept = {(byte) 0xEF, (short) 0xCDEF, 0x89ABCDEF, v, 1};
        for (int sort = 0; sort < 5; sort++) {
            due("P32 item of sort " + sort, x.item(sort, 1, v), 1);
            due("P33 what is kept of sort " + sort, x.read(sort, 1), kept[sort]);
            due("P32 a second of sort " + sort, x.item(sort, 2, 256), 1);
        }
        long[] of256 = {0, 256, 256, 256, 1};
        for (int sort = 0; sort < 5; sort++) due("P33 256 of sort " + sort, x.read(sort, 2), of256[sort]);
        x.item(4, 1, 0);
        due("P32 a boolean of 0", x.read(4, 1), 0);
        x.item(4, 1, -5);
        due("P32 a boolean of -5", x.read(4, 1), 1);
        due("P32 tape 6", x.item(6, 9, 1), -1);
        due("P32 tape -1", x.item(-1, 0, 1), -1);
        due("P32 nothing there", x.item(5, 9, 1), -11);
        for (int i : new int[] {3, -1, 60, MAX, MIN}) due("P32 place " + i, x.item(0, i, 1), -13);
    }

    private static void reading() {
        CrossroadsCarts x = new CrossroadsCarts();
        x.tape(0, 3, 2);
        x.item(0, 1, -9);
        due("P33 read(0, 1)", x.read(0, 1), -9);
        for (int i : new int[] {2, -1, MAX, MIN}) due("P33 place " + i, x.read(0, i), NO);
        for (int t : new int[] {1, 6, -1, MAX, MIN}) due("P33 tape " + t, x.read(t, 0), NO);
    }

    private static String all(CrossroadsCarts x, int tape, int n) {
        StringBuilder b = new StringBuilder();
        for (int i = 0; i < n; i++) b.append(x.read(tape, i));
        return b.toString();
    }

    private static void shifting() {
        CrossroadsCarts x = new CrossroadsCarts();
        Check.row(x, 0, 1, 2, 3, 4, 5, 6);
        Check.row(x, 1, 7, 7, 7, 7);
        due("P34 three", x.shift(0, 2, 1, 1, 3), 3);
        CHECK.due("P34 they came", all(x, 1, 4).equals("7345"), true);
        CHECK.due("P34 they are still there", all(x, 0, 6).equals("123456"), true);
        due("P34 to the right over themselves", x.shift(0, 0, 0, 1, 5), 5);
        CHECK.due("P34 as they were before", all(x, 0, 6).equals("112345"), true);
        due("P34 to the left over themselves", x.shift(0, 2, 0, 0, 4), 4);
        CHECK.due("P34 as they were before, too", all(x, 0, 6).equals("234545"), true);
        due("P34 none, at both ends", x.shift(0, 6, 1, 4, 0), 0);
        due("P34 all", x.shift(0, 0, 0, 0, 6), 6);
        x.tape(2, 1, 0);
        due("P34 none of none", x.shift(2, 0, 2, 0, 0), 0);
    }

    private static void refusals() {
        CrossroadsCarts x = new CrossroadsCarts();
        Check.row(x, 0, 1, 2, 3, 4, 5, 6);
        Check.row(x, 1, 7, 7, 7, 7);
        x.tape(2, 2, 9);
        due("P34 tape -1", x.shift(-1, 0, 5, 0, 0), -1);
        due("P34 the other tape 6", x.shift(5, 0, 6, 0, 0), -1);
        due("P34 nothing there", x.shift(5, -1, 2, 0, 0), -11);
        due("P34 nothing in the other", x.shift(2, -1, 5, 0, 0), -11);
        due("P34 unlike sorts", x.shift(0, -1, 2, 0, 0), -12);
        int[][] off = {{-1, 0, 1}, {0, -1, 1}, {0, 0, -1}, {4, 0, 3}, {0, 2, 3}, {7, 0, 0}, {0, 5, 0}, {0, 0, 5},
            {MAX, 0, 1}, {0, MAX, 1}, {0, 0, MAX}, {1, 1, MAX}, {MIN, MIN, MIN}, {MAX, MAX, MAX}};
        for (int[] o : off) due("P34 off " + o[0] + " " + o[1] + " " + o[2], x.shift(0, o[0], 1, o[1], o[2]), -13);
        CHECK.due("P34 nothing came of that", all(x, 1, 4).equals("7777"), true);
    }
}
