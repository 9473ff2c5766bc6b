import java.util.function.Supplier;
import java.util.function.ToLongFunction;

/**
 * Objects in which something stands, and all that one of them can be asked, as one text: with that a
 * test sees that a call changes nothing. What is made and what is asked stay below 512 calls.
 */
final class Scenes {
    static final int MAX = Integer.MAX_VALUE, MIN = Integer.MIN_VALUE;
    /** What is fed behind the land of some() and left there. */
    static final String LEFT = "mile 9;pi";
    /** A land of 120 bytes. */
    static final String LONGEST = "like 0 0 1;like 0 1 2;like 1 0 3;like 2 0 4;like 3 2 5;near 0 1 6;near 1 1 7;cost 1 8;mile 9;shun s=0&t=1|!(f>2|i<10) 99";

    private Scenes() {
    }

    static CrossroadsCarts nothing() {
        return new CrossroadsCarts();
    }

    /** Town 0 is full, town 2 has a gate of 30; four families, two laws, two years, THE TEXT, THE TRACE, tapes 0 to 4. */
    static CrossroadsCarts some() {
        CrossroadsCarts x = Check.families(Check.towns(2, 3, 1), Check.f(0, 40, 0), Check.f(1, 20, 0), Check.f(0, 60, 1), Check.f(2, 10, 1));
        x.year(3);
        x.year(4);
        Check.levels(x, 0, 3, 0, 1);
        Check.levels(x, 1, 0, 2, 0);
        x.put(1, 3, 4);
        x.put(2, 4, 30);
        x.put(0, 5, 7);
        feed(x, "like 0 0 9;near 0 1 7;near 1 0 4;cost 0 4;mile 5;dues i;pick d;shun f>2|i<15 6");
        x.land();
        feed(x, LEFT);
        x.law(1, 0, 30, 5);
        x.law(2, 1, 0, 3);
        x.act(4, 2, 7);
        for (int sort = 0; sort < 5; sort++) {
            x.tape(sort, sort, 6);
            for (int i = 0; i < 6; i++) x.item(sort, i, i % 2);
        }
        return x;
    }

    /** Of all as much as there can be; one house of town 3 alone is free. */
    static CrossroadsCarts full() {
        CrossroadsCarts x = new CrossroadsCarts();
        for (int i = 0; i < 99; i++) x.year(i);
        Check.families(x = townsOf(x, 2, 2, 2, 3), Check.f(0, 11, 0), Check.f(1, 22, 0), Check.f(2, 33, 1), Check.f(3, 44, 1),
            Check.f(0, 55, 2), Check.f(1, 66, 2), Check.f(2, 77, 3), Check.f(3, 88, 3));
        x.put(3, 0, 5);
        x.put(3, 3, 999);
        x.put(2, 4, 99);
        x.put(1, 5, 999);
        feed(x, LONGEST);
        x.land();
        feed(x, LONGEST);
        for (int town = 0; town < 4; town++) x.law(town % 3, town, 9 * town, 99);
        x.act(4, 2, MAX);
        for (int tape = 0; tape < 6; tape++) {
            x.tape(tape, tape % 5, 60);
            x.item(tape, 0, 1);
            x.item(tape, 59, -1);
        }
        return x;
    }

    private static CrossroadsCarts townsOf(CrossroadsCarts x, int... houses) {
        for (int h : houses) x.town(h);
        return x;
    }

    /** Four bytes at a time, so that a long text takes few calls. */
    static void feed(CrossroadsCarts x, String text) {
        for (int i = 0; i < text.length(); i += 4) {
            int n = Math.min(4, text.length() - i), bytes = 0;
            for (int k = 0; k < n; k++) bytes = bytes << 8 | text.charAt(i + k);
            x.feed(bytes, n);
        }
    }

    /** All that can be asked, and then what THE TEXT, the tapes' sorts and the years bring about. */
    static String all(CrossroadsCarts x) {
        StringBuilder b = new StringBuilder();
        ask(x, b);
        for (int tape = 0; tape < 6; tape++) b.append(x.item(tape, 0, 0x7FFFFFFF80818283L)).append(' ').append(x.read(tape, 0)).append(' ');
        b.append(" land ").append(x.land());
        for (int town = 0; town < x.count(0); town++) b.append(' ').append(x.worth(0, town));
        b.append(" year ").append(x.year(5));
        for (int family = 0; family < x.count(1); family++) b.append(' ').append(x.of(family, 1));
        b.append(" end ").append(x.end(true));
        for (int family = 0; family < x.count(1); family++) b.append(' ').append(x.of(family, 2));
        return b.toString();
    }

    private static void ask(CrossroadsCarts x, StringBuilder b) {
        int towns = x.count(0), families = x.count(1);
        for (int what = 0; what < 7; what++) b.append(x.count(what)).append(' ');
        for (int family = 0; family < families; family++) {
            b.append(" family ").append(family);
            for (int what = 0; what < 6; what++) b.append(' ').append(x.of(family, what));
            for (int town = 0; town < towns; town++) b.append(' ').append(x.worth(family, town));
        }
        for (int town = 0; town < towns; town++) {
            b.append(" town ").append(town);
            for (int what = 0; what < 9; what++) b.append(' ').append(x.has(town, what));
            for (int good = 0; good < 3; good++) b.append(' ').append(x.choice(town, good));
        }
        b.append(" rests");
        for (int kind = 1; kind < 6; kind++) b.append(' ').append(x.broken(kind)).append(' ').append(x.all(kind, -1, 0));
        b.append(" more ").append(x.good(0)).append(' ').append(x.sorted(0)).append(' ').append(x.sorted(1)).append(' ').append(x.tip(false));
        b.append(' ').append(x.mend(999, false)).append(' ').append(x.mend(4, false)).append(' ').append(x.edge(0, 0, 1));
        b.append(" trace");
        for (int i = 0; i < 20; i++) b.append(' ').append(x.trace(i));
        for (int tape = 0; tape < 6; tape++) {
            b.append(" tape ").append(tape);
            for (int i = 0; i < 8; i++) b.append(' ').append(x.read(tape, i));
            b.append(' ').append(x.read(tape, 59));
        }
    }

    /** A call answers what is due, and all is as in an object in which it was not done. */
    static void unchanged(Check check, String told, Supplier<CrossroadsCarts> scene, ToLongFunction<CrossroadsCarts> call, long want) {
        CrossroadsCarts x = scene.get();
        check.due(told, call.applyAsLong(x), want);
        check.same(told + " changes nothing", all(x), all(scene.get()));
    }
}
