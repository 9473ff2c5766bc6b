/** Counts the calls whose answer is not the one that is due, and tells each. */
final class Check {
    private final String test;
    private int asked, wrong;

    Check(String test) {
        this.test = test;
    }

    void due(String call, long got, long want) {
        asked++;
        if (got != want) {
            wrong++;
            System.out.println(test + ": " + call + " answered " + got + ", due is " + want);
        }
    }

    void due(String call, boolean got, boolean want) {
        due(call, got ? 1 : 0, want ? 1 : 0);
    }

    void same(String call, String got, String want) {
        asked++;
        if (!got.equals(want)) {
            wrong++;
            System.out.println(test + ": " + call + ":\n  " + got + "\n  is due as\n  " + want);
        }
    }

    /** Tells how it went; exit code 1 if one was wrong. */
    void end() {
        System.out.println(test + ": " + asked + " asked, " + wrong + " wrong");
        if (wrong != 0) System.exit(1);
    }

    static CrossroadsCarts towns(int... houses) {
        CrossroadsCarts x = new CrossroadsCarts();
        for (int h : houses) x.town(h);
        return x;
    }

    /** Families of sort, income, town. */
    static CrossroadsCarts families(CrossroadsCarts x, int[]... rows) {
        for (int[] r : rows) x.family(r[0], r[1], r[2]);
        return x;
    }

    static int[] f(int sort, int income, int town) {
        return new int[] {sort, income, town};
    }

    static int land(CrossroadsCarts x, String text) {
        for (int i = 0; i < text.length(); i++) x.feed(text.charAt(i), 1);
        return x.land();
    }

    static void levels(CrossroadsCarts x, int town, int a, int b, int c) {
        x.put(town, 0, a);
        x.put(town, 1, b);
        x.put(town, 2, c);
    }

    /** A tape of shorts with these items. */
    static void row(CrossroadsCarts x, int tape, int... items) {
        x.tape(tape, 1, items.length);
        for (int i = 0; i < items.length; i++) x.item(tape, i, items[i]);
    }
}
