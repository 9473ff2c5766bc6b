/** Promises 27 to 30: acts, THE TRACE, what is taken for what, how many. */
public final class ActsTest {
    private static final Check CHECK = new Check("ActsTest");

    public static void main(String[] args) {
        acts();
        wrapping();
        traces();
        noActs();
        taken();
        counts();
        CHECK.end();
    }

    private static void due(String call, long got, long want) {
        CHECK.due(call, got, want);
    }

    private static CrossroadsCarts twoInThree() {
        return Check.families(Check.towns(2, 2, 2), Check.f(0, 10, 0), Check.f(0, 10, 0));
    }

    private static void acts() {
        CrossroadsCarts x = twoInThree();
        int[][] want = {{12, 9, 18}, {12, 12, 24}, {32, 24, 55}, {-12, -12, -24}, {32, 32, 67}, {12, 9, -6}};
        for (int kind = 0; kind < 6; kind++) {
            for (int act = 0; act < 3; act++) due("P27 act(" + kind + ", " + act + ", 10)", x.act(kind, act, 10), want[kind][act]);
        }
        due("P27 it wraps", x.act(0, 0, Integer.MAX_VALUE), Integer.MIN_VALUE + 1);
        due("P27 it wraps times 3", x.act(2, 0, Integer.MIN_VALUE), Integer.MIN_VALUE + 2);
        due("P27 it wraps times 2", x.act(0, 2, 1 << 30), -2147483648 - 2);
        x.family(1, 10, 1);
        due("P27 one family more", x.act(3, 0, 10), -13);
        x.town(1);
        due("P27 one town more", x.act(5, 1, 10), 8);
    }

    /** x wraps, as all that is done with it does: each act worked out by hand, with k families and m towns. */
    private static int byHand(int kind, int act, int x, int k, int m) {
        int seen = (3 * (x - k) + k - m ^ 5) + (6 + k);
        int[] all = {
            x + k, x + k - m, 2 * (x + k - m),
            x + k, x + k - m ^ 5, 2 * (x + k - m ^ 5),
            3 * x + k, 3 * x + k - m ^ 5, 2 * (3 * x + k - m ^ 5) + (3 + k - m ^ 5),
            -(x + k), -(x + k) - m ^ 5, 2 * (-(x + k) - m ^ 5),
            3 * x + k, (3 * x + k - m ^ 5) + (6 + k), 2 * seen + (3 + k - m ^ 5) + (6 + k),
            x + k, x + k ^ 5, x + k - 2 * (x + k ^ 5)};
        return all[3 * kind + act];
    }

    private static void wrapping() {
        int most = Integer.MAX_VALUE, least = Integer.MIN_VALUE;
        int[] xs = {0, 1, -1, 5, most, most - 1, most - 7, most - 8, least, least + 1, least + 4, 1 << 30, (1 << 30) - 1, -(1 << 30), most / 3, most / 3 + 1,
            least / 3, least / 3 - 1, 715827883, -715827883, 1431655765, 1431655766};
        for (int k = 0; k <= 8; k++) {
            for (int m = k == 0 ? 0 : 1; m <= 4; m++) {
                CrossroadsCarts x = new CrossroadsCarts();
                for (int t = 0; t < m; t++) x.town(8);
                for (int f = 0; f < k; f++) x.family(0, 10, 0);
                for (int i = 0; i < 18; i++) {
                    for (int n : xs) due("P27 act(" + i / 3 + ", " + i % 3 + ", " + n + ") of " + k + ", " + m, x.act(i / 3, i % 3, n), byHand(i / 3, i % 3, n, k, m));
                }
            }
        }
        for (int i = 0; i < 18; i++) {
            due("P27 the acting one's own kind and act of the most x", twoInThree().act(i / 3, i % 3, most), byHand(i / 3, i % 3, most, 2, 3));
            due("P27 the least x", twoInThree().act(i / 3, i % 3, least), byHand(i / 3, i % 3, least, 2, 3));
        }
    }

    private static void trace(int kind, int act, int... bodies) {
        CrossroadsCarts x = twoInThree();
        x.act(kind, act, 10);
        String call = "P28 act(" + kind + ", " + act + ")";
        due(call + " ran", x.count(6), bodies.length);
        for (int i = 0; i < bodies.length; i++) due(call + " trace(" + i + ")", x.trace(i), bodies[i]);
        due(call + " no more", x.trace(bodies.length), -1);
        due(call + " trace(-1)", x.trace(-1), -1);
        due(call + " trace(20)", x.trace(20), -1);
    }

    private static void traces() {
        trace(0, 0, 10);
        trace(0, 1, 11, 10);
        trace(0, 2, 12, 11, 10);
        trace(1, 0, 10);
        trace(1, 1, 20, 11, 10);
        trace(1, 2, 12, 20, 11, 10);
        trace(2, 0, 30, 10);
        trace(2, 1, 20, 11, 30, 10);
        trace(2, 2, 31, 12, 20, 11, 30, 10, 20, 11, 30, 10);
        trace(3, 0, 40, 10);
        trace(3, 1, 20, 11, 40, 10);
        trace(3, 2, 12, 20, 11, 40, 10);
        trace(4, 0, 30, 10);
        trace(4, 1, 51, 20, 11, 30, 10, 30, 10);
        trace(4, 2, 50, 31, 12, 51, 20, 11, 30, 10, 30, 10, 51, 20, 11, 30, 10, 30, 10);
        trace(5, 0, 10);
        trace(5, 1, 60, 20, 11, 10);
        trace(5, 2, 61, 10, 12, 60, 20, 11, 10);
    }

    private static void noActs() {
        int[][] none = {{-1, 0}, {6, 0}, {0, -1}, {0, 3}, {Integer.MAX_VALUE, 0}, {0, Integer.MIN_VALUE}};
        for (int[] n : none) {
            CrossroadsCarts x = twoInThree();
            x.act(4, 2, 1);
            due("P27 no such kind or act", x.act(n[0], n[1], 5), 0);
            due("P28 no trace then", x.trace(0), -1);
            due("P30 no bodies then", x.count(6), 0);
        }
    }

    private static void taken() {
        CrossroadsCarts x = new CrossroadsCarts();
        int[] under = {0b111111, 0b111110, 0b010100, 0b001000, 0b010000, 0b100000};
        for (int k = 0; k < 6; k++) {
            for (int kind = 0; kind < 6; kind++) {
                due("P29 taken(" + kind + ", " + k + ")", x.taken(kind, k), (under[k] >> kind & 1) == 1 ? kind : -12);
            }
        }
        due("P29 k 6", x.taken(0, 6), -2);
        due("P29 k -1", x.taken(0, -1), -2);
        due("P29 kind 6", x.taken(6, 0), -11);
        due("P29 kind -1", x.taken(-1, 5), -11);
        due("P29 BAD is ahead of NOTHING", x.taken(6, 6), -2);
    }

    private static void counts() {
        CrossroadsCarts x = twoInThree();
        Check.land(x, "mile 1");
        x.feed(0, 3);
        x.law(0, 0, 1, 1);
        x.year(1);
        x.year(1);
        x.act(1, 1, 1);
        int[] want = {3, 2, 1, 3, 1, 2, 3};
        for (int what = 0; what < 7; what++) due("P30 count(" + what + ")", x.count(what), want[what]);
        due("P30 what 7", x.count(7), -2);
        due("P30 what -1", x.count(-1), -2);
    }
}
