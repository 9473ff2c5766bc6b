/** Promises 7 to 11: THE TEXT, the land, worth, choice, choosing. */
public final class LandTest {
    private static final Check CHECK = new Check("LandTest");
    private static final long NO = CrossroadsCarts.NO;

    public static void main(String[] args) {
        feeding();
        faults();
        lands();
        worths();
        dues();
        shuns();
        choices();
        choosing();
        CHECK.end();
    }

    private static void due(String call, long got, long want) {
        CHECK.due(call, got, want);
    }

    private static void feeding() {
        CrossroadsCarts x = new CrossroadsCarts();
        due("P7 mile", x.feed(0x6D696C65, 4), 4);
        due("P7 the two lowest bytes, the highest first", x.feed(0x7F7F2037, 2), 6);
        due("P7 none", x.feed(0x20202020, 0), 6);
        due("P7 n 5", x.feed(0, 5), -2);
        due("P7 n -1", x.feed(0, -1), -2);
        due("P7 mile 7 is a land", x.land(), 1);
        due("P7 it is empty then", x.count(3), 0);
        for (int i = 1; i < 30; i++) due("P7 more", x.feed(-1, 4), 4 * i);
        due("P7 three more", x.feed(0, 3), 119);
        due("P7 two are too many", x.feed(0, 2), -4);
        due("P7 BAD is ahead of FULL", x.feed(0, 5), -2);
        due("P7 one more", x.feed(0, 1), 120);
        due("P7 one too many", x.feed(0, 1), -4);
        due("P7 none is none too many", x.feed(0, 0), 120);
        due("P7 a byte of 255 begins no land", x.land(), -10);
    }

    private static void fault(String text, int place) {
        CrossroadsCarts x = new CrossroadsCarts();
        int got = Check.land(x, text);
        due("P8 " + text, got, place < 0 ? 1 : -10 - place);
        due("P8 THE TEXT is empty behind " + text, x.count(3), 0);
        due("P8 lands behind " + text, x.count(2), place < 0 ? 1 : 0);
    }

    private static void faults() {
        int well = -1;
        fault("", 0);
        fault("x", 0);
        fault("li", 2);
        fault("lika", 3);
        fault("like", 4);
        fault("like0", 4);
        fault("like 4 0 1", 5);
        fault("like 0  0 1", 7);
        fault("like 0 3 1", 7);
        fault("like 0 0 x", 9);
        fault("like 0 0 ", 9);
        fault("like 0 0 12x", 11);
        fault("like 0 0 1234", 12);
        fault("like 3 2 999", well);
        fault("near 0 4 1", 7);
        fault("near 3 3 000", well);
        fault("nike 3 3 0", 1);
        fault("cost 3 1", 5);
        fault("cost 2 07", well);
        fault("mile 7 ", 6);
        fault(" mile 7", 0);
        fault("mile 7;", 7);
        fault("mile 7; mile 7", 7);
        fault("mile 7;;", 7);
        fault("dues x", 5);
        fault("dues m", 5);
        fault("dues hi", 6);
        fault("dues h;dues i;dues e", well);
        fault("pick h", 5);
        fault("pick m;pick d;pick o", well);
        fault("shun s=1 5", well);
        fault("shun s=1  5", 9);
        fault("shun s=1", 8);
        fault("shun s=1 ", 9);
        fault("shun s=", 7);
        fault("shun s=1234 5", 10);
        fault("shun s1 5", 6);
        fault("shun x=1 5", 5);
        fault("shun s<1&i=2|t>3 5", well);
        fault("shun s<1& 5", 9);
        fault("shun s<1|&t=1 5", 9);
        fault("shun !!!!t=1 1", well);
        fault("shun !!!!!t=1 1", 9);
        fault("shun !!!!t=1&!!!!t=1 1", well);
        fault("shun ((((t=1)))) 2", well);
        fault("shun ((((t=1&(t=1))))) 2", 13);
        fault("shun (((((t=1))))) 2", 9);
        fault("shun !(!(t=1)) 1", well);
        fault("shun !(!(!t=1)) 1", 9);
        fault("shun (t=1|f<2)&!t=2|f>1 9", well);
        fault("shun (t=1 9", 9);
        fault("shun t=1) 9", 8);
        fault("shun () 9", 6);
        String ten = "mile 1;mile 1;mile 1;mile 1;mile 1;mile 1;mile 1;mile 1;mile 1;mile 1";
        fault(ten, well);
        fault(ten + ";", 69);
        fault(ten + ";mile 1", 69);
        fault((char) 236 + "ike 0 0 1", 0);
    }

    private static void lands() {
        CrossroadsCarts x = Check.families(Check.towns(4, 4), Check.f(0, 10, 0));
        due("P8 without a land nothing is far", x.worth(0, 1), 0);
        due("P8 the first land", Check.land(x, "mile 5;mile 8"), 1);
        due("P8 the last clause rules", x.worth(0, 1), -8);
        due("P8 a fault in the second clause", Check.land(x, "mile 9;miles"), -21);
        due("P8 the land that was rules on", x.worth(0, 1), -8);
        due("P8 the second land", Check.land(x, "like 0 0 7;cost 0 0"), 2);
        due("P8 it forgets the first", x.worth(0, 1), 0);
        x.put(0, 0, 2);
        due("P8 its like", x.worth(0, 0), 14);
        due("P8 the third land", Check.land(x, "like 1 0 7"), 3);
        due("P8 it forgets the second", x.worth(0, 0), -20);
        due("P8 lands", x.count(2), 3);
    }

    private static CrossroadsCarts three() {
        return Check.families(Check.towns(3, 3), Check.f(0, 40, 0), Check.f(1, 20, 0), Check.f(0, 9, 1));
    }

    private static void worths() {
        CrossroadsCarts x = three();
        Check.land(x, "like 0 0 9;near 0 1 7;near 0 0 3;cost 0 4;mile 5;shun f>2|i<10 6");
        x.put(0, 0, 3);
        due("P9 worth(0, 0)", x.worth(0, 0), 27 + 7 - 12 / 2);
        due("P9 worth(0, 1): as if it were there", x.worth(0, 1), 3 - 5);
        due("P9 worth(1, 0): near 0 1 is not near 1 0", x.worth(1, 0), -6);
        due("P9 worth(2, 0)", x.worth(2, 0), 27 + 3 + 7 - 12 / 3 - 5 - 6);
        due("P9 worth(2, 1)", x.worth(2, 1), -6);
        x.put(0, 3, 11);
        due("P9 less rent", x.worth(0, 0), 17);
        x.put(0, 5, 7);
        due("P9 with a sum", x.worth(0, 0), 27 + 7 - 5 / 2 - 11);
        due("P9 asking changes nothing", x.of(0, 2), 0);
        due("P9 worth(3, 0)", x.worth(3, 0), NO);
        due("P9 worth(0, 2)", x.worth(0, 2), NO);
        due("P9 worth(-1, 0)", x.worth(-1, 0), NO);
        due("P9 worth(0, -1)", x.worth(0, -1), NO);
        x.go(1, 1);
        due("P9 a home that is far", x.worth(1, 1), -5);
        due("P9 a full town has worth as well", x.worth(0, 1), 3 + 7 - 5 - 6);
    }

    private static void dues() {
        CrossroadsCarts x = three();
        x.put(0, 0, 3);
        Check.land(x, "cost 0 4;dues i");
        due("P9 dues i, the first", x.worth(0, 0), -(12 * 40 / 60));
        due("P9 dues i, the second", x.of(1, 4), 12 * 20 / 60);
        due("P9 dues i, one who comes", x.worth(2, 0), -(12 * 9 / 69));
        Check.land(x, "cost 0 4;dues e");
        due("P9 dues e, the greatest", x.of(0, 4), 6);
        due("P9 dues e, half of the greatest", x.of(1, 4), 6);
        due("P9 dues e, less than half", x.worth(2, 0), 0);
        x.put(0, 5, 1);
        due("P9 dues e are cut", x.of(0, 4), 5);
        Check.land(x, "dues h");
        due("P9 dues h of cost 10 each", x.worth(2, 0), -(29 / 3));
    }

    private static void shun(String e, int holds) {
        CrossroadsCarts x = three();
        Check.land(x, "shun " + e + " 5");
        due("P9 shun " + e, x.worth(1, 0), holds * -5);
    }

    private static void shuns() {
        shun("s=1", 1);
        shun("s=0", 0);
        shun("s<1", 0);
        shun("s<2", 1);
        shun("s>0", 1);
        shun("s>1", 0);
        shun("i=20", 1);
        shun("i=020", 1);
        shun("t=0", 1);
        shun("t>0", 0);
        shun("f=2", 1);
        shun("f=3", 0);
        shun("!f=3", 1);
        shun("!!f=3", 0);
        shun("s=1&f=3", 0);
        shun("s=1|f=3", 1);
        shun("s=1|s=1&f=3", 1);
        shun("(s=1|s=1)&f=3", 0);
        shun("f=3&s=1|s=1", 1);
        shun("f=3&(s=1|s=1)", 0);
        shun("!s=1|s=1", 1);
        shun("!(s=1|s=1)", 0);
        shun("!s=0&!(i>20|f>2)", 1);
        CrossroadsCarts x = three();
        Check.land(x, "shun s=1 5;shun f>1 20;shun t>0 300");
        due("P9 all shuns together", x.worth(1, 0), -25);
        due("P9 of the town where it would be", x.worth(1, 1), -325);
    }

    private static void choices() {
        CrossroadsCarts x = Check.families(Check.towns(4, 4), Check.f(0, 40, 0), Check.f(1, 20, 0), Check.f(2, 9, 0));
        String likes = "like 0 0 9;like 1 0 2;like 2 0 9";
        Check.land(x, likes);
        due("P10 most want 5", x.choice(0, 0), 5);
        due("P10 nobody likes good 1", x.choice(0, 1), 0);
        due("P10 a town without families", x.choice(1, 0), 0);
        Check.land(x, likes + ";pick d");
        due("P10 the middle one of 0 5 5", x.choice(0, 0), 5);
        Check.land(x, "like 0 0 9;pick d");
        due("P10 the middle one of 0 0 5", x.choice(0, 0), 0);
        x.go(1, 1);
        Check.land(x, likes);
        due("P10 both want 5", x.choice(0, 0), 5);
        Check.land(x, "like 0 0 9");
        due("P10 of levels that as many want the least", x.choice(0, 0), 0);
        Check.land(x, "like 0 0 9;pick d");
        due("P10 of an even number the lesser", x.choice(0, 0), 0);
        x.go(0, 1);
        Check.land(x, "like 0 0 9;like 1 0 9;like 2 0 9;pick o");
        due("P10 one alone wants none at that cost", x.choice(0, 0), 0);
        due("P10 all, if it is nobody's home", x.choice(1, 0), 5);
        x.family(3, 9, 1);
        due("P10 those alone whose home it is", x.choice(1, 0), 0);
        Check.land(x, "like 0 0 9;like 1 0 9;like 2 0 9;pick m");
        due("P10 m asks all", x.choice(1, 0), 5);
        x.put(0, 5, 20);
        Check.land(x, "like 2 0 1");
        due("P10 what the sum pays", x.choice(0, 0), 2);
        x.put(0, 1, 1);
        due("P10 all else as it is", x.choice(0, 0), 1);
        due("P10 asking changes nothing", x.has(0, 3) * 10 + x.has(0, 4), 1);
        unlikeWants();
        x.put(0, 2, 1);
        Check.land(x, "like 2 2 11");
        due("P10 good 2", x.choice(0, 2), 5);
        due("P10 good 3", x.choice(0, 3), -1);
        due("P10 good -1", x.choice(0, -1), -1);
        due("P10 town 2", x.choice(2, 0), -1);
    }

    /** Levels 0, 2 and 5 are wanted, and then more of 5 or of 0. */
    private static void unlikeWants() {
        CrossroadsCarts x = Check.families(Check.towns(8), Check.f(0, 40, 0), Check.f(1, 20, 0), Check.f(2, 9, 0));
        String likes = "like 1 0 1;like 2 0 9";
        x.put(0, 5, 20);
        Check.land(x, likes);
        due("P10 m: one each of 0 2 5", x.choice(0, 0), 0);
        Check.land(x, likes + ";pick d");
        due("P10 d: the middle one of 0 2 5", x.choice(0, 0), 2);
        x.family(2, 9, 0);
        due("P10 d: the lesser one of 0 2 5 5", x.choice(0, 0), 2);
        x.family(2, 9, 0);
        due("P10 d: the middle one of 0 2 5 5 5", x.choice(0, 0), 5);
        x.family(0, 9, 0);
        x.family(0, 9, 0);
        due("P10 d: the middle one of 0 0 0 2 5 5 5", x.choice(0, 0), 2);
        Check.land(x, likes);
        due("P10 m: the least of 0 0 0 2 5 5 5", x.choice(0, 0), 0);
        Check.land(x, likes + ";pick o");
        due("P10 o: likewise", x.choice(0, 0), 0);
    }

    private static void choosing() {
        CrossroadsCarts x = Check.families(Check.towns(4, 4), Check.f(0, 40, 0));
        Check.land(x, "like 0 0 1;like 0 1 1");
        x.put(0, 5, 50);
        due("P11 good 1 would be wanted, too", x.choice(0, 1), 5);
        due("P11 but good 0 comes first", x.choose(0), 1);
        due("P11 level 0", x.has(0, 3), 5);
        due("P11 level 1", x.has(0, 4), 0);
        due("P11 then nothing changes", x.choose(0), 0);
        Check.levels(x, 1, 1, 0, 2);
        due("P11 a town without families loses all", x.choose(1), 2);
        due("P11 what is left", x.has(1, 3) + x.has(1, 5), 0);
        due("P11 town 2", x.choose(2), -1);
        due("P11 town -1", x.choose(-1), -1);
    }
}
