/** Promises 20 to 22: rents that rise, how sorted it is, whose going turns all. */
public final class RentsTest {
    private static final Check CHECK = new Check("RentsTest");

    public static void main(String[] args) {
        rising();
        sorting();
        chances();
        tipping();
        CHECK.end();
    }

    private static void due(String call, long got, long want) {
        CHECK.due(call, got, want);
    }

    private static void rising() {
        CrossroadsCarts x = Check.families(Check.towns(1, 1), Check.f(0, 10, 0), Check.f(0, 20, 1));
        due("P20 nobody would come", x.rise(), 0);
        Check.land(x, "like 0 0 3;cost 0 0");
        x.put(0, 0, 5);
        x.put(0, 3, 77);
        x.put(1, 3, 7);
        due("P20 till it is no better for the other", x.rise(), 15);
        due("P20 the rent", x.has(0, 6), 15);
        due("P20 the other is from 0 on, too", x.has(1, 6), 0);
        due("P20 nobody goes", x.of(1, 2), 1);
        due("P20 that is RENTED", x.rest(3), 1);
        x.put(0, 4, 21);
        due("P20 one hindered by the gate would not come", x.rise(), 0);
        due("P20 the rent then", x.has(0, 6), 0);
        x.put(0, 4, 20);
        due("P20 a gate of its income does not hinder", x.rise(), 15);
        Check.land(x, "like 0 0 40;cost 0 0");
        due("P20 as often as told at most", x.rise(), 200);
        due("P20 a rent of 200", x.has(0, 6), 200);
        CrossroadsCarts y = Check.families(Check.towns(2, 1), Check.f(0, 10, 0), Check.f(0, 20, 1));
        Check.land(y, "like 0 0 3;cost 0 0");
        y.put(0, 0, 5);
        due("P20 as many as houses may come", y.rise(), 0);
        CrossroadsCarts z = Check.families(Check.towns(1, 1, 1), Check.f(0, 10, 0), Check.f(0, 20, 1), Check.f(0, 20, 2));
        Check.land(z, "like 0 0 3;cost 0 0");
        z.put(0, 0, 5);
        z.put(1, 0, 2);
        due("P20 two towns, the least first", z.rise(), 21);
        due("P20 their rents", z.has(0, 6) * 100 + z.has(1, 6), 1506);
    }

    private static void sorting() {
        CrossroadsCarts x = Check.towns(8, 8);
        due("P21 no families", x.sorted(0) * 100 + x.sorted(1) * 10 + x.sorted(2), 11);
        Check.families(x, Check.f(0, 10, 0), Check.f(0, 10, 0), Check.f(1, 10, 1));
        due("P21 a pair", x.sorted(0), 1);
        due("P21 ways with a pair or more", x.sorted(1), 2);
        due("P21 of all ways", x.sorted(2), 6);
        x.go(1, 1);
        due("P21 no pair", x.sorted(0), 0);
        due("P21 none or more have all", x.sorted(1), 6);
        due("P21 what -1", x.sorted(-1), -1);
        due("P21 what 3", x.sorted(3), -1);
        x.go(1, 0);
        Check.families(x, Check.f(1, 10, 1));
        due("P21 two pairs", x.sorted(0), 2);
        due("P21 ways with two pairs", x.sorted(1), 8);
        due("P21 of 24", x.sorted(2), 24);
    }

    private static void chances() {
        CrossroadsCarts x = Check.towns(8, 8);
        for (int i = 0; i < 7; i++) x.family(2, 10, i / 4);
        due("P21 9 pairs", x.sorted(0), 6 + 3);
        due("P21 all ways are alike", x.sorted(1), 5040);
        due("P21 7 families", x.sorted(2), 5040);
        x.family(2, 10, 0);
        due("P21 8 families: pairs", x.sorted(0), 10 + 3);
        due("P21 8 families: chance", x.sorted(1), -9);
        due("P21 8 families: of how many", x.sorted(2), -9);
        due("P21 8 families: what 3", x.sorted(3), -1);
    }

    private static void tipping() {
        CrossroadsCarts x = Check.families(Check.towns(3, 3), Check.f(0, 10, 0), Check.f(1, 20, 0));
        due("P22 nobody follows", x.tip(false), -5);
        Check.land(x, "near 1 0 5");
        due("P22 the second follows the first", x.tip(false), 1);
        due("P22 nobody went by that", x.of(0, 2) + x.of(1, 2), 0);
        x.put(1, 4, 11);
        due("P22 the first can't go", x.tip(false), -5);
        x.put(1, 4, 0);
        Check.land(x, "near 0 1 5");
        due("P22 the first follows the second", x.tip(false), 101);
        due("P22 with votes as well", x.tip(true), 101);
        x.put(1, 4, 11);
        due("P22 it would, if it could go itself", x.tip(false), -5);
        CrossroadsCarts y = Check.families(Check.towns(3, 3, 3), Check.f(0, 10, 0), Check.f(1, 20, 0));
        Check.land(y, "near 1 0 5;shun s=1&t=1 9");
        due("P22 to the second town alone", y.tip(false), 2);
        votes();
    }

    /** A newcomer who halves the dues lets a level be chosen that draws a third one. */
    private static void votes() {
        CrossroadsCarts x = Check.families(Check.towns(3, 1, 3), Check.f(0, 10, 0), Check.f(0, 20, 1), Check.f(0, 30, 2));
        Check.land(x, "like 0 0 9");
        due("P22 without votes", x.tip(false), -5);
        due("P22 with votes", x.tip(true), 2);
    }
}
