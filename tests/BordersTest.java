import java.util.function.Supplier;

/**
 * The sentences of the Terms that name a border: what is just so, and what is one more or one less;
 * and the first and the last town, family, sort and good wherever all of them count.
 */
public final class BordersTest {
    private static final Check CHECK = new Check("BordersTest");

    public static void main(String[] args) {
        clausesOfEach();
        testsOfEach();
        forgotten();
        forgottenPicks();
        costs();
        cuts();
        halves();
        miles();
        wants();
        middles();
        oldOnes();
        staying();
        rented();
        fourTowns();
        seers();
        clubs();
        clubSizes();
        orders();
        steps();
        levelsCount();
        rings();
        ways();
        asItIs();
        rises();
        chances();
        tips();
        mends();
        births();
        CHECK.end();
    }

    private static void due(String call, long got, long want) {
        CHECK.due(call, got, want);
    }

    private static void due(String call, boolean got) {
        CHECK.due(call, got, true);
    }

    /** like of its SORT and GOOD, near of its SORT and t, cost of the GOOD: each alone. */
    private static void clausesOfEach() {
        for (int s = 0; s < 4; s++) {
            for (int g = 0; g < 3; g++) {
                CrossroadsCarts x = Check.families(Check.towns(8), Check.f(0, 9, 0), Check.f(1, 9, 0), Check.f(2, 9, 0), Check.f(3, 9, 0));
                Check.levels(x, 0, 1, 2, 3);
                Check.land(x, "like " + s + " " + g + " 999;cost 0 0;cost 1 0;cost 2 0");
                for (int f = 0; f < 4; f++) due("T2 like " + s + " " + g + ": sort " + f, x.of(f, 5), f == s ? 999 * (g + 1) : 0);
                Check.land(x, "cost 0 0;cost 1 0;cost 2 0;cost " + g + " 999");
                due("T2 cost " + g, x.has(0, 2), 999 * (g + 1));
            }
            for (int t = 0; t < 4; t++) {
                CrossroadsCarts x = Check.families(Check.towns(8), Check.f(0, 9, 0), Check.f(1, 9, 0), Check.f(2, 9, 0), Check.f(3, 9, 0));
                Check.land(x, "near " + s + " " + t + " 999");
                for (int f = 0; f < 4; f++) due("T2 near " + s + " " + t + ": sort " + f, x.of(f, 5), f == s && s != t ? 999 : 0);
                x.family(t, 9, 0);
                for (int f = 0; f < 4; f++) due("T2 near, one more: sort " + f, x.of(f, 5), f != s ? 0 : s != t ? 1998 : 999);
                due("T2 near itself alone", x.of(4, 5), s == t ? 999 : 0);
            }
        }
        CrossroadsCarts x = Check.families(Check.towns(1), Check.f(0, 9, 0));
        Check.levels(x, 0, 1, 1, 1);
        due("T2 without a LAND: cost 10 each", x.of(0, 5), -30);
        Check.land(x, "mile 0;like 0 0 000;shun t=0 0;near 0 0 0");
        due("T2 clauses of 0", x.of(0, 5), -30);
        Check.land(x, "cost 1 5;cost 1 007;like 0 2 1;like 0 2 3;like 0 1 4");
        due("T2 of s, g and of g the last clause", x.of(0, 5), -27 + 7);
    }

    /** < = > at the number, one below it and one above. */
    private static void testsOfEach() {
        for (int n = 1; n <= 3; n++) {
            for (int number = n - 1; number <= n + 1; number++) {
                boolean[] holds = {n < number, n == number, n > number};
                for (int mark = 0; mark < 3; mark++) {
                    String test = "<=>".charAt(mark) + "" + number;
                    CrossroadsCarts x = Check.towns(8, 8, 8, 8);
                    for (int f = 0; f < n; f++) x.family(n, 20 + n, n);
                    int want = holds[mark] ? -7 : 0;
                    Check.land(x, "shun s" + test + " 7");
                    due("T2 SORT " + n + test, x.of(0, 5), want);
                    Check.land(x, "shun i" + test.charAt(0) + "2" + number + " 7");
                    due("T2 INCOME 2" + n + test, x.of(0, 5), want);
                    Check.land(x, "shun t" + test + " 7");
                    due("T2 number of the TOWN " + n + test, x.of(0, 5), want);
                    Check.land(x, "shun f" + test + " 7");
                    due("T2 FAMILIES in it " + n + test, x.of(0, 5), want);
                    x.family(0, 9, 0);
                    due("T2 FAMILIES with it " + n + test, x.worth(n, n), n + 1 < number && mark == 0 || n + 1 == number && mark == 1
                        || n + 1 > number && mark == 2 ? -7 : 0);
                }
            }
        }
    }

    /** The newest LAND rules, without a CLAUSE it is as without a LAND: nothing of a former one is left. */
    private static void forgotten() {
        String[] clauses = {"like 3 2 9", "near 3 3 9", "cost 2 9", "mile 9", "dues i", "dues e", "pick d", "pick o", "shun s<9 9"};
        for (String clause : clauses) {
            for (int between = 0; between < 3; between++) {
                String told = clause + ", then " + between + " lands and one without it";
                CrossroadsCarts x = Check.families(Check.towns(4, 4), Check.f(3, 10, 0), Check.f(3, 70, 0), Check.f(2, 30, 1), Check.f(3, 30, 1),
                    Check.f(3, 30, 1));
                CrossroadsCarts as = Check.families(Check.towns(4, 4), Check.f(3, 10, 0), Check.f(3, 70, 0), Check.f(2, 30, 1), Check.f(3, 30, 1),
                    Check.f(3, 30, 1));
                for (CrossroadsCarts each : new CrossroadsCarts[] {x, as}) {
                    each.go(0, 1);
                    Check.levels(each, 0, 1, 2, 3);
                    Check.levels(each, 1, 2, 0, 3);
                    each.put(1, 5, 20);
                }
                due("T2 a land with " + clause, Check.land(x, clause), 1);
                for (int i = 0; i < between; i++) Check.land(x, "mile " + i);
                due("T2 " + told, Check.land(x, "like 3 2 8"), 2 + between);
                Check.land(as, "like 3 2 8");
                for (int f = 0; f < 5; f++) {
                    due("T2 " + told + ": dues", x.of(f, 4), as.of(f, 4));
                    for (int town = 0; town < 2; town++) due("T2 " + told + ": worth", x.worth(f, town), as.worth(f, town));
                }
                for (int good = 0; good < 3; good++) {
                    for (int town = 0; town < 2; town++) due("T2 " + told + ": choice", x.choice(town, good), as.choice(town, good));
                }
                due("T2 " + told + ": cost", x.has(0, 2), as.has(0, 2));
            }
        }
    }

    /** Of 0, 2 and 5, of which 5 comes from elsewhere: m wants 0, d wants 2; of 5, 5 and 0 m wants 5, o wants 0. */
    private static void forgottenPicks() {
        for (int between = 0; between < 3; between++) {
            CrossroadsCarts x = Check.families(Check.towns(8, 8), Check.f(0, 9, 0), Check.f(1, 9, 0), Check.f(2, 9, 1));
            x.go(2, 0);
            x.put(0, 5, 20);
            String likes = "like 1 0 1;like 2 0 9";
            Check.land(x, likes + ";pick d");
            due("T2 pick d", x.choice(0, 0), 2);
            for (int i = 0; i < between; i++) Check.land(x, "mile " + i);
            Check.land(x, likes);
            due("T2 pick d is forgotten", x.choice(0, 0), 0);
            x.family(2, 9, 1);
            x.go(3, 0);
            x.go(1, 1);
            due("T2 pick m", x.choice(0, 0), 5);
            Check.land(x, likes + ";pick o");
            due("T2 pick o", x.choice(0, 0), 0);
            for (int i = 0; i < between; i++) Check.land(x, "mile " + i);
            Check.land(x, likes);
            due("T2 pick o is forgotten", x.choice(0, 0), 5);
        }
    }

    /** Less its SUM, 0 at least. */
    private static void costs() {
        CrossroadsCarts x = Check.families(Check.towns(2), Check.f(0, 10, 0));
        Check.levels(x, 0, 1, 2, 3);
        for (int sum = 58; sum <= 62; sum++) {
            x.put(0, 5, sum);
            int want = sum < 60 ? 60 - sum : 0;
            due("T2 COST less a SUM of " + sum, x.has(0, 2), want);
            due("T2 DUES of that", x.of(0, 4), want);
        }
        x.put(0, 5, 999);
        due("T2 COST less the most SUM", x.has(0, 2), 0);
        Check.levels(x, 0, 5, 5, 5);
        Check.land(x, "cost 0 999;cost 1 999;cost 2 999");
        due("T2 the most COST", x.has(0, 2), 14985 - 999);
        x.put(0, 5, 0);
        due("T2 the most COST without a SUM", x.of(0, 4), 14985);
    }

    /** Divided, and cut. */
    private static void cuts() {
        for (int heads = 1; heads <= 8; heads++) {
            CrossroadsCarts x = Check.towns(8, 8);
            for (int f = 0; f < heads; f++) x.family(0, 10 * (f + 1), 0);
            int incomes = 5 * heads * (heads + 1);
            for (int cost : new int[] {heads - 1, heads, heads + 1, 2 * heads - 1, 2 * heads, 499}) {
                Check.land(x, "cost 0 " + cost);
                x.put(0, 0, 1);
                due("T2 dues h: " + cost + " for " + heads, x.of(0, 4), cost / heads);
                due("T2 dues h of the last", x.of(heads - 1, 4), cost / heads);
                Check.land(x, "dues i;cost 0 " + cost);
                for (int f = 0; f < heads; f++) due("T2 dues i: " + cost + ", the " + f + "th of " + heads, x.of(f, 4), cost * 10 * (f + 1) / incomes);
            }
        }
        CrossroadsCarts y = Check.families(Check.towns(8, 8), Check.f(0, 99, 0), Check.f(0, 1, 1));
        Check.land(y, "dues i;cost 0 999;cost 1 999;cost 2 999");
        Check.levels(y, 0, 5, 5, 5);
        due("T2 dues i of the most COST", y.of(0, 4), 14985);
        due("T2 dues i of one who would come", y.worth(1, 0), -(14985 / 100));
    }

    /** INCOME of half the greatest there or more (2 times it is no less), as if it were there. */
    private static void halves() {
        for (int greatest : new int[] {2, 3, 40, 41, 98, 99}) {
            for (int income = Math.max(1, greatest / 2 - 1); income <= greatest / 2 + 1; income++) {
                for (int first = 0; first < 2; first++) {
                    CrossroadsCarts x = Check.towns(8, 8);
                    x.family(0, first == 0 ? greatest : income, 0);
                    x.family(0, first == 0 ? income : greatest, 0);
                    Check.land(x, "dues e;cost 0 100");
                    x.put(0, 0, 1);
                    boolean such = 2 * income >= greatest;
                    String told = "T2 dues e: INCOME " + income + " of " + greatest;
                    due(told, x.of(1 - first, 4), such ? 50 : 0);
                    due(told + ": the greatest", x.of(first, 4), such ? 50 : 100);
                }
            }
        }
        CrossroadsCarts x = Check.families(Check.towns(8, 8), Check.f(0, 20, 0), Check.f(0, 10, 0), Check.f(0, 40, 1), Check.f(0, 41, 1), Check.f(0, 9, 1));
        Check.land(x, "dues e;cost 0 90");
        x.put(0, 0, 1);
        due("T2 dues e: 10 of 20", x.of(1, 4), 45);
        due("T2 dues e: one of 40 would come, 20 is such", x.worth(2, 0), -45);
        due("T2 dues e: one of 41 would come, none is such", x.worth(3, 0), -90);
        due("T2 dues e: one of 9 would come, it is none", x.worth(4, 0), 0);
    }

    /** mile times how far its HOME is (numbers of TOWNS apart). */
    private static void miles() {
        for (int home = 0; home < 4; home++) {
            CrossroadsCarts x = Check.families(Check.towns(8, 8, 8, 8), Check.f(0, 9, home));
            Check.land(x, "mile 999");
            for (int to = 0; to < 4; to++) {
                int far = home < to ? to - home : home - to;
                due("T2 from " + home + " to " + to, x.worth(0, to), -999 * far);
            }
            x.go(0, 3 - home);
            due("T2 HOME stays " + home, x.of(0, 3), home);
            due("T2 it is far from there", x.of(0, 5), -999 * Math.abs(3 - 2 * home));
        }
    }

    /** Each wants the LEVEL of greatest WORTH (of several the least), so one more worth turns all. */
    private static void wants() {
        for (int good = 0; good < 3; good++) {
            CrossroadsCarts x = Check.families(Check.towns(8), Check.f(0, 9, 0));
            Check.land(x, "cost " + good + " 20;like 0 " + good + " 20");
            due("T2 as much worth at all levels: the least", x.choice(0, good), 0);
            Check.land(x, "cost " + good + " 20;like 0 " + good + " 21");
            due("T2 one more at each: the most", x.choice(0, good), 5);
            Check.land(x, "cost " + good + " 20;like 0 " + good + " 19");
            due("T2 one less at each: none", x.choice(0, good), 0);
            for (int level = 0; level <= 5; level++) {
                x.put(0, 5, level * 20);
                due("T2 a SUM that pays " + level, x.choice(0, good), level);
                if (level > 0) x.put(0, 5, level * 20 - 1);
                due("T2 a SUM of one less: 19 more against 19 less", x.choice(0, good), level);
                x.put(0, good, 5 - level);
                due("T2 all else as it is, its own LEVEL is not", x.choice(0, good), level);
            }
            x.put(0, 5, 20);
            x.put(0, good == 2 ? 0 : 2, 2);
            due("T2 another GOOD takes the SUM", x.choice(0, good), 0);
        }
    }

    /** n families in town 0 of which so many want 5, the others 0. */
    private static CrossroadsCarts voters(int n, int five) {
        CrossroadsCarts x = Check.towns(8, 8);
        for (int f = 0; f < n; f++) x.family(f < five ? 1 : 0, 9, 0);
        return x;
    }

    /** m: the LEVEL that most want (of several the least); d: the middle one (of an even number the lesser). */
    private static void middles() {
        for (int n = 1; n <= 8; n++) {
            for (int five = 0; five <= n; five++) {
                CrossroadsCarts x = voters(n, five);
                String told = five + " of " + n + " want 5";
                Check.land(x, "like 1 2 999");
                due("T2 m: " + told, x.choice(0, 2), five > n - five ? 5 : 0);
                Check.land(x, "like 1 2 999;pick d");
                due("T2 d: " + told, x.choice(0, 2), five > n / 2 ? 5 : 0);
                Check.land(x, "like 1 2 999;pick o");
                due("T2 o: " + told, x.choice(0, 2), five > n - five ? 5 : 0);
            }
        }
    }

    /** o: of those alone whose HOME it is (all, if there are none). */
    private static void oldOnes() {
        for (int old = 0; old < 3; old++) {
            CrossroadsCarts x = Check.towns(8, 8);
            for (int f = 0; f < 3; f++) x.family(f == old ? 1 : 0, 9, f == old ? 1 : 0);
            for (int f = 0; f < 3; f++) if (f != old) x.go(f, 1);
            Check.land(x, "like 1 0 999;pick o");
            due("T2 o: the one whose HOME it is, " + old, x.choice(1, 0), 5);
            Check.land(x, "like 0 0 999;pick o");
            due("T2 o: the others are not asked", x.choice(1, 0), 0);
            Check.land(x, "like 0 0 999;pick m");
            due("T2 m: they are", x.choice(1, 0), 5);
            x.go(old, 0);
            due("T2 m: two of two", x.choice(1, 0), 5);
            Check.land(x, "like 0 0 999;pick o");
            due("T2 o: nobody's HOME, so all", x.choice(1, 0), 5);
            Check.land(x, "like 1 0 999;pick o");
            due("T2 o: where it is alone and not at HOME", x.choice(0, 0), 5);
        }
    }

    /** A TOWN of greater WORTH breaks STAY, one of as much does not: for the first and the last of all. */
    private static void staying() {
        for (int f = 0; f < 8; f++) {
            for (int town = 0; town < 4; town++) {
                for (int more = -1; more <= 1; more++) {
                    int home = (town + 1) % 4;
                    CrossroadsCarts x = Check.towns(8, 8, 8, 8);
                    for (int i = 0; i < 8; i++) x.family(i == f ? 1 : 0, 9, home);
                    Check.land(x, "shun s=0&!t=" + home + " 99;like 1 1 " + (10 + more) + ";cost 1 0;shun t=" + town + " 10");
                    x.put(town, 1, 1);
                    String told = "T3 family " + f + ", town " + town + " of " + more + " more";
                    due(told, x.broken(1), more > 0 ? 100 * f + town : -5);
                    due(told + ": a step", x.step(false), more > 0 ? f : -6);
                    due(told + ": where it is", x.of(f, 2), more > 0 ? town : home);
                }
            }
        }
    }

    /** No FAMILY that isn't hindered finds greater WORTH in a full TOWN; a free HOUSE has RENT 0. */
    private static void rented() {
        for (int full = 0; full < 3; full++) {
            for (int rent = 14; rent <= 16; rent++) {
                CrossroadsCarts x = Check.towns(1, 1, 1);
                for (int f = 0; f < 3; f++) x.family(f == full ? 1 : 0, 20, f);
                Check.land(x, "like 0 0 3;cost 0 0;shun s=1&!t=" + full + " 99");
                x.put(full, 0, 5);
                x.put(full, 3, rent);
                int first = full == 0 ? 1 : 0;
                due("T3 RENT " + rent + " of 15 in town " + full, x.broken(3), rent < 15 ? 100 * first + full : -5);
                x.put(full, 4, 20);
                due("T3 a GATE of its INCOME", x.broken(3), rent < 15 ? 100 * first + full : -5);
                x.put(full, 4, 21);
                due("T3 a GATE of one more", x.broken(3), -5);
            }
            for (int town = 0; town < 3; town++) {
                CrossroadsCarts x = Check.towns(1, 1, 1);
                for (int f = 0; f < 3; f++) if (f != full) x.family(0, 20, f);
                Check.land(x, "shun t=" + full + " 99;mile 2");
                x.put(town, 3, 1);
                due("T3 RENT 1 in town " + town + ", a free HOUSE in " + full, x.broken(3), town == full ? 1000 + full : -5);
            }
        }
    }

    /** Four towns at rest of every KIND, full and not. */
    private static void fourTowns() {
        for (int houses = 1; houses <= 2; houses++) {
            CrossroadsCarts x = Check.towns(houses, houses, houses, houses);
            for (int f = 0; f < 4 * houses; f++) x.family(f % 4, 9, f % 4);
            for (int kind = 1; kind <= 5; kind++) due("T3 four full towns of " + houses + ", kind " + kind, x.broken(kind), -5);
        }
        CrossroadsCarts empty = Check.towns(1, 1, 1, 1);
        for (int kind = 1; kind <= 5; kind++) due("T3 four empty towns, kind " + kind, empty.broken(kind), -5);
    }

    /** SEER asks what would be chosen and leaves all as it was. */
    private static void seers() {
        for (int swap = 0; swap < 2; swap++) {
            CrossroadsCarts x = Check.families(Check.towns(4, 4), Check.f(swap, 10, 0), Check.f(1 - swap, 10, 1));
            Check.land(x, "like 0 0 11;like 1 2 12;like 0 1 13;shun f>1 99");
            x.choose(0);
            x.choose(1);
            int[] before = new int[6];
            for (int i = 0; i < 6; i++) before[i] = x.has(i / 3, 3 + i % 3);
            due("T3 none would go", x.broken(4), -5);
            for (int i = 0; i < 6; i++) due("T3 its levels are as they were", x.has(i / 3, 3 + i % 3), before[i]);
            due("T3 nor does that judged", x.broken(2), -5);
        }
        for (int like = 5; like <= 6; like++) {
            CrossroadsCarts x = Check.families(Check.towns(4, 4), Check.f(0, 10, 0), Check.f(0, 10, 1));
            Check.land(x, "like 0 0 " + like + ";shun f>1 5");
            due("T3 of 5 times " + like + " half of 50 is paid, and 5", x.broken(4), -5);
            Check.land(x, "like 0 0 " + like + ";shun f>1 4");
            due("T3 and 4", x.broken(4), like == 6 ? 1 : -5);
            x.put(1, 4, 11);
            due("T3 and a GATE, for the first", x.broken(4), like == 6 ? 100 : -5);
        }
        CrossroadsCarts full = Check.families(Check.towns(1, 1), Check.f(0, 10, 0), Check.f(0, 10, 1));
        Check.land(full, "like 0 0 9");
        due("T3 none can go where it is full", full.broken(4), -5);
    }

    /** A TOWN that has no FAMILY: the first, the last; HOUSES enough; all of them would. */
    private static void clubs() {
        for (int empty = 0; empty < 4; empty++) {
            for (int houses = 1; houses <= 3; houses++) {
                CrossroadsCarts x = new CrossroadsCarts();
                for (int t = 0; t < 4; t++) x.town(t == empty ? houses : 1);
                for (int t = 0; t < 4; t++) if (t != empty) x.family(0, 10, t);
                Check.land(x, "near 0 0 5");
                due("T3 town " + empty + " of " + houses, x.broken(5), houses == 1 ? -5 : empty);
                x.put(empty, 3, houses == 3 ? 10 : 5);
                due("T3 a RENT that is as much", x.broken(5), -5);
                x.put(empty, 3, houses == 3 ? 9 : 4);
                due("T3 a RENT of one less", x.broken(5), houses == 1 ? -5 : empty);
                x.put(empty, 4, 11);
                due("T3 a GATE of one more", x.broken(5), -5);
                x.put(empty, 4, 10);
                due("T3 a GATE of their INCOME", x.broken(5), houses == 1 ? -5 : empty);
            }
        }
        for (int odd = 0; odd < 3; odd++) {
            CrossroadsCarts x = Check.towns(1, 1, 1, 3);
            for (int t = 0; t < 3; t++) x.family(t == odd ? 1 : 0, t == odd ? 9 : 10, t);
            Check.land(x, "near 0 1 5");
            due("T3 the one of them would not, " + odd, x.broken(5), -5);
            Check.land(x, "near 0 1 5;near 1 0 5");
            due("T3 it would", x.broken(5), 3);
            x.put(3, 4, 10);
            due("T3 it is hindered", x.broken(5), -5);
        }
    }

    /** Two or three, no one and no four; sets as bits from the least number on. */
    private static void clubSizes() {
        for (int size = 1; size <= 5; size++) {
            CrossroadsCarts x = Check.towns(6, 8);
            for (int f = 0; f < 5; f++) x.family(0, 10, 0);
            Check.land(x, "shun t=0 5;shun t=1&!f=" + size + " 5");
            due("T3 no more than " + size + " and no less", x.broken(5), size == 1 || size == 2 || size == 3 ? 1 : -5);
            due("T3 one alone is no club, but breaks STAY", x.broken(1), size == 1 ? 1 : -5);
        }
        for (int a = 0; a < 8; a++) {
            for (int b = 0; b < a; b++) {
                CrossroadsCarts x = Check.towns(8, 2);
                for (int f = 0; f < 8; f++) x.family(f == a || f == b ? 1 : 0, 10, 0);
                Check.land(x, "shun s=1&t=0 5;shun t=1&f=1 9");
                due("T3 " + b + " and " + a + " alone would", x.broken(5), 100 * b + 1);
                for (int c = 0; c < b; c++) {
                    CrossroadsCarts y = Check.towns(8, 3);
                    for (int f = 0; f < 8; f++) y.family(f == a || f == b || f == c ? 1 : 0, 10, 0);
                    Check.land(y, "shun s=1&t=0 5;shun t=1&f<3 9");
                    due("T3 " + c + ", " + b + " and " + a + " alone would", y.broken(5), 100 * c + 1);
                }
            }
        }
        CrossroadsCarts x = Check.families(Check.towns(4, 3, 3), Check.f(0, 9, 0), Check.f(1, 9, 0), Check.f(1, 9, 0), Check.f(0, 9, 0));
        Check.land(x, "shun t=0 5;shun !t=0&f=1 9;shun t=1&s=0 9;shun t=2&s=1 9");
        due("T3 1 and 2 (6 as bits) to town 1 ahead of 0 and 3 (9) to town 2", x.broken(5), 101);
    }

    /** What breaks it first: STAY's parts ahead of those of the KINDS under it. */
    private static void orders() {
        CrossroadsCarts x = Check.families(Check.towns(3, 3, 1), Check.f(0, 10, 0), Check.f(0, 20, 0), Check.f(0, 30, 2));
        Check.land(x, "cost 0 0;like 0 0 1");
        x.put(2, 0, 3);
        x.put(0, 3, 4);
        x.put(1, 3, 3);
        x.put(2, 3, 1);
        for (int kind = 1; kind <= 5; kind++) due("T3 STAY first: kind " + kind, x.broken(kind), 1);
        x.put(0, 3, 3);
        due("T3 nobody can go to a better one", x.broken(1), -5);
        due("T3 then what is not voted", x.broken(2), 0);
        due("T3 of SEER first what is not voted, too", x.broken(4), 0);
        due("T3 then who finds more in a full town", x.broken(3), 2);
        x.put(2, 4, 15);
        due("T3 the next of these", x.broken(3), 102);
        x.put(2, 4, 25);
        due("T3 then the first free house with a rent", x.broken(3), 1000);
        x.put(0, 3, 0);
        x.put(1, 3, 0);
        due("T3 the town of a free house has none any more", x.broken(3), -5);
        for (int good = 2; good >= 0; good--) {
            for (int town = 2; town >= 0; town--) {
                CrossroadsCarts y = Check.towns(1, 1, 1);
                for (int t = town; t < 3; t++) for (int g = good; g < 3; g++) y.put(t, g, 1);
                due("T3 the first town, of it the first good", y.broken(2), 100 * town + good);
            }
        }
    }

    /** The first FAMILY, to the greatest WORTH, of several the least TOWN; with votes all TOWNS CHOOSE then. */
    private static void steps() {
        for (int first = 0; first < 8; first++) {
            CrossroadsCarts x = Check.towns(8, 8, 8, 8);
            for (int f = 0; f < 8; f++) x.family(f < first ? 0 : 1, 9, 0);
            Check.land(x, "shun s=1&t=0 5;shun s=1&t=1 3;shun s=0&!t=0 9");
            due("T4 the first that goes", x.step(false), first);
            due("T4 to the least of two that are the best", x.of(first, 2), 2);
            x.put(2, 4, 10);
            for (int f = first + 1; f < 8; f++) {
                due("T4 then the next", x.step(false), f);
                due("T4 where a gate does not hinder", x.of(f, 2), 3);
            }
            due("T4 then none", x.step(false), -6);
        }
        for (int town = 0; town < 4; town++) {
            for (int good = 0; good < 3; good++) {
                CrossroadsCarts x = Check.families(Check.towns(1, 1, 1, 1), Check.f(0, 9, 0));
                for (int t = 0; t < 4; t++) x.put(t, 4, 10);
                x.put(town, good, 1);
                String told = "T4 LEVEL " + good + " of town " + town;
                due(told + " without votes is no step", x.step(false), -6);
                due(told + " stays", x.has(town, 3 + good), 1);
                due(told + " with votes is one", x.step(true), -5);
                due(told + " is gone", x.has(town, 3 + good), 0);
                due(told + " was all", x.step(true), -6);
            }
        }
    }

    /** Where FAMILIES are and each LEVEL count for whether all is as it was. */
    private static void levelsCount() {
        for (int town = 0; town < 4; town++) {
            for (int good = 0; good < 3; good++) {
                for (int level = 1; level <= 5; level++) {
                    CrossroadsCarts x = Check.towns(1, 1, 1, 1);
                    x.put(town, good, level);
                    due("T4 a step by one LEVEL is no ring", x.end(true), 1);
                    due("T4 and without votes none", x.end(false), 0);
                }
            }
        }
        for (int level = 1; level <= 5; level++) {
            for (int good = 1; good < 3; good++) {
                CrossroadsCarts x = Check.families(Check.towns(1), Check.f(0, 9, 0));
                Check.land(x, "like 0 0 1");
                x.put(0, 5, 10);
                x.put(0, good, level);
                due("T4 LEVELS 0 and " + level + " are not as 1 and 0", x.end(true), 2);
                due("T4 so it ends", x.has(0, 3) * 100 + x.has(0, 4) * 10 + x.has(0, 5), 100);
            }
        }
        for (int f = 0; f < 8; f++) {
            for (int to = 1; to < 4; to++) {
                CrossroadsCarts x = Check.towns(8, 8, 8, 8);
                for (int i = 0; i < 8; i++) x.family(i == f ? 1 : 0, 9, 0);
                Check.land(x, "shun s=0&t>0 9;shun s=1&!t=" + to + " 9");
                due("T4 a step by one FAMILY is no ring", x.end(false), 1);
                due("T4 it went", x.of(f, 2), to);
            }
        }
    }

    /** Houses, families as sort, income, town, a land, and one level. */
    private static CrossroadsCarts scene(int[] houses, int[][] families, String land, int... level) {
        CrossroadsCarts x = Check.families(Check.towns(houses), families);
        Scenes.feed(x, land);
        due("P8 " + land, x.land(), 1);
        if (level.length > 0) x.put(level[0], level[1], level[2]);
        return x;
    }

    private static CrossroadsCarts nineteen() {
        return scene(new int[] {5, 7, 6, 1}, new int[][] {{2, 26, 1}, {0, 78, 0}, {2, 52, 1}, {1, 72, 3}, {1, 17, 2}, {2, 69, 1}, {1, 54, 0},
            {0, 39, 0}}, "mile 5;near 1 0 37;near 3 3 39;near 2 1 6", 0, 2, 3);
    }

    private static CrossroadsCarts twenty() {
        return scene(new int[] {5, 7, 6, 5}, new int[][] {{1, 1, 3}, {3, 71, 2}, {3, 63, 0}, {0, 37, 1}, {3, 94, 2}, {3, 27, 1}, {3, 17, 2},
            {1, 81, 3}}, "like 3 2 11;near 3 1 25", 2, 1, 5);
    }

    private static CrossroadsCarts ringOfTwenty() {
        return scene(new int[] {3, 6, 3, 8}, new int[][] {{1, 77, 3}, {0, 97, 2}, {1, 12, 2}, {3, 82, 1}, {1, 76, 3}, {3, 49, 0}, {2, 78, 0},
            {2, 82, 2}}, "near 0 0 16;shun s=3&f>2 13;near 2 3 38;near 3 3 1;near 1 2 33;shun s=3&f>2 22");
    }

    private static CrossroadsCarts ringOfFour() {
        return scene(new int[] {8, 2, 7, 6}, new int[][] {{1, 84, 2}, {3, 9, 3}, {1, 64, 1}, {3, 55, 3}, {1, 4, 2}, {3, 37, 0}, {0, 90, 3}},
            "near 1 3 38;near 3 0 2;shun s=3&f>1 14", 1, 0, 0);
    }

    private static CrossroadsCarts ringTooLate() {
        return scene(new int[] {3, 8, 8}, new int[][] {{2, 71, 0}, {2, 39, 0}, {0, 32, 0}, {1, 48, 1}, {0, 32, 1}},
            "near 2 0 25;near 0 1 22;shun s=1&f>2 6;near 0 1 29", 2, 1, 2);
    }

    private static String look(CrossroadsCarts x) {
        StringBuilder b = new StringBuilder();
        for (int f = 0; f < x.count(1); f++) b.append(x.of(f, 2));
        for (int t = 0; t < x.count(0); t++) for (int good = 3; good < 6; good++) b.append(x.has(t, good));
        return b.toString();
    }

    /** END is till there is no STEP, or a ring, or 20 are done; behind it all is as behind so many STEPS. */
    private static void end(String told, Supplier<CrossroadsCarts> scene, boolean votes, int answer, int steps) {
        CrossroadsCarts x = scene.get();
        due("T4 " + told, x.end(votes), answer);
        String before = look(scene.get());
        for (int done = 1; done <= steps; done++) {
            CrossroadsCarts y = scene.get();
            for (int i = 1; i < done; i++) y.step(votes);
            int went = y.step(votes);
            due("T4 " + told + ": step " + done, went >= 0 || went == -5);
            String behind = look(y);
            due("T4 " + told + ": step " + done + " changed something", !behind.equals(before));
            before = behind;
        }
        CHECK.same("T4 " + told + ": all as behind so many steps", look(x), before);
    }

    private static void rings() {
        end("19 steps", BordersTest::nineteen, false, 19, 19);
        end("20 steps", BordersTest::twenty, true, 200, 20);
        CrossroadsCarts last = twenty();
        last.end(true);
        due("T4 there would be no 21st", last.step(true), -6);
        end("a ring of 20", BordersTest::ringOfTwenty, true, 120, 20);
        CrossroadsCarts ring = ringOfTwenty();
        ring.end(true);
        CHECK.same("T4 as ahead of all", look(ring), look(ringOfTwenty()));
        end("a ring of 4 with the 20th step", BordersTest::ringOfFour, false, 104, 20);
        CrossroadsCarts four = ringOfFour();
        four.end(false);
        String ahead = look(four);
        for (int i = 0; i < 4; i++) four.step(false);
        CHECK.same("T4 4 more steps, and it is like that again", look(four), ahead);
        end("a ring with the 21st step", BordersTest::ringTooLate, true, 200, 20);
        CrossroadsCarts late = ringTooLate();
        late.end(true);
        late.step(true);
        CrossroadsCarts first = ringTooLate();
        first.step(true);
        CHECK.same("T4 as it was behind the first", look(late), look(first));
        due("T4 from there it is a ring of 20", late.end(true), 120);
    }

    /** Only with 5 FAMILIES and 3 TOWNS at most; with HOUSES enough. */
    private static void ways() {
        for (int families = 1; families <= 8; families++) {
            for (int towns = 1; towns <= 4; towns++) {
                CrossroadsCarts x = new CrossroadsCarts();
                for (int t = 0; t < towns; t++) x.town(8);
                for (int f = 0; f < families; f++) x.family(0, 9, 0);
                int ways = 1;
                for (int f = 0; f < families; f++) ways *= towns;
                boolean many = families > 5 || towns > 3;
                String told = families + " FAMILIES, " + towns + " TOWNS";
                due("T4 " + told, x.all(1, -1, 0), many ? -9 : ways);
                due("T4 the last, " + told, x.all(1, ways - 1, families - 1), many ? -9 : towns - 1);
                due("T4 one further, " + told, x.all(1, ways, 0), many ? -9 : -1);
                due("T4 the best, " + told, x.good(families - 1), many ? -9 : 0);
            }
        }
        int[] few = {1, 3, 6, 10};
        for (int houses = 1; houses <= 3; houses++) {
            CrossroadsCarts x = Check.families(Check.towns(houses, houses, houses), Check.f(0, 9, 0), Check.f(0, 9, 1), Check.f(0, 9, 2));
            int[] want = {6, 24, 27};
            due("T4 ways with " + houses + " each", x.all(1, -1, 0), want[houses - 1]);
        }
        CrossroadsCarts y = Check.families(Check.towns(1, 1, 2), Check.f(0, 9, 0), Check.f(0, 9, 1));
        due("T4 ways with 1, 1 and 2", y.all(1, -1, 0), few[2] + 1);
        y.put(0, 4, 99);
        y.put(1, 4, 99);
        y.put(2, 4, 99);
        due("T4 GATES do not matter for these", y.all(1, -1, 0), few[2] + 1);
        CrossroadsCarts z = Check.families(Check.towns(5, 5, 5), Check.f(0, 9, 0), Check.f(1, 9, 0), Check.f(2, 9, 0), Check.f(3, 9, 0), Check.f(0, 9, 0));
        Check.land(z, "shun t=0 1;shun t=1 1;shun s=3&t=2 7");
        int[] best = {2, 2, 2, 0, 2};
        for (int f = 0; f < 5; f++) due("T4 GOOD of several the first: family " + f, z.good(f), best[f]);
        due("T4 so it is at rest", z.all(1, 0, 3), 0);
        due("T4 and one way more", z.all(1, -1, 0), 2);
        due("T4 that other", z.all(1, 1, 3), 1);
    }

    /** A ROW that tells how it is, is JUDGED as it is: each of what a town and a family has counts, the last as the first. */
    private static void asItIs() {
        for (int town = 0; town < 4; town++) {
            for (int what = 0; what < 6; what++) {
                CrossroadsCarts x = Check.towns(2, 2, 2, 3);
                int[] row = {0, 0, 1, 1, 2, 2, 3, 3};
                for (int f = 0; f < 8; f++) x.family(f % 4, 20 + 10 * f, row[f]);
                Check.row(x, 5, row);
                Check.land(x, "mile 2;dues i;like 0 0 3;like 1 1 12;like 2 2 40;like 3 0 7;shun t<3 4;near 0 3 9");
                for (int n = 0; n <= 5; n++) {
                    x.put(town, what, what == 4 ? 16 * n : what == 5 ? 12 * n : n);
                    for (int kind = 1; kind <= 5; kind++) {
                        due("P17 as it is, what " + what + " of town " + town + ", kind " + kind, x.judge(5, 0, kind), x.rest(kind));
                    }
                }
            }
        }
        for (int f = 0; f < 8; f++) {
            CrossroadsCarts x = Check.towns(8, 8, 8, 8);
            for (int i = 0; i < 8; i++) x.family(i == f ? 2 : 1, i == f ? 30 : 20, i == f ? 3 : 0);
            Check.land(x, "mile 9;shun i>29&t=0 28;shun s=2&t=1 1");
            int[] row = new int[8];
            Check.row(x, 0, row);
            due("P17 its INCOME, its SORT and its HOME count: " + f, x.judge(0, 0, 1), 0);
            x.tape(0, 1, 8);
            x.item(0, f, 3);
            due("P17 there it stays", x.judge(0, 0, 1), 1);
            x.item(0, f, 2);
            due("P17 there not", x.judge(0, 0, 1), 0);
        }
    }

    /** Again and again, till there is none, or 200 times. */
    private static void rises() {
        for (int worth : new int[] {0, 1, 198, 199, 200, 201, 202, 250}) {
            for (int rich = 0; rich < 3; rich++) {
                CrossroadsCarts x = Check.towns(1, 1, 1);
                for (int f = 0; f < 3; f++) x.family(f == rich ? 0 : f == (rich + 1) % 3 ? 1 : 2, 9, f);
                Check.land(x, "like 1 0 " + worth + ";cost 0 0;shun s=0&!t=" + rich + " 999;shun s=2&!t=" + (rich + 2) % 3 + " 999");
                x.put(rich, 0, 1);
                x.put((rich + 1) % 3, 3, 5);
                int want = Math.min(worth, 200);
                due("T4 of " + worth + " in town " + rich, x.rise(), want);
                due("T4 its RENT", x.has(rich, 6), want);
                due("T4 the others'", x.has((rich + 1) % 3, 6) + x.has((rich + 2) % 3, 6), 0);
                due("T4 nobody goes", x.of(0, 2) * 100 + x.of(1, 2) * 10 + x.of(2, 2), 12);
            }
        }
        for (int houses = 1; houses <= 4; houses++) {
            CrossroadsCarts x = Check.families(Check.towns(houses, 4), Check.f(0, 9, 0), Check.f(1, 9, 1), Check.f(1, 9, 1));
            Check.land(x, "shun s=1&t=1 7");
            due("T4 one there, two would come to " + houses, x.rise(), houses < 3 ? 7 : 0);
        }
        CrossroadsCarts y = Check.families(Check.towns(1, 2), Check.f(0, 9, 0), Check.f(0, 19, 1));
        Check.land(y, "shun s=0&t=1 7");
        y.put(0, 4, 20);
        due("T4 one hindered by the GATE does not come", y.rise(), 0);
        y.put(0, 4, 19);
        due("T4 one who is not does", y.rise(), 7);
        Check.land(y, "shun t=0 7");
        due("T4 who is there and would go counts, one who would come there does not", y.rise(), 0);
    }

    /** CHANCE only with 7 FAMILIES at most; in all towns. */
    private static void chances() {
        int ways = 1;
        for (int n = 1; n <= 8; n++) {
            ways *= n;
            CrossroadsCarts x = Check.towns(2, 2, 2, 2);
            for (int f = 0; f < n; f++) x.family(f / 2, 9, f / 2);
            due("T4 pairs of " + n, x.sorted(0), n / 2);
            due("T4 of how many ways, " + n, x.sorted(2), n > 7 ? -9 : ways);
            int[] sorted = {1, 2, 2, 8, 8, 48, 48};
            due("T4 ways with as many pairs, " + n, x.sorted(1), n > 7 ? -9 : sorted[n - 1]);
        }
        for (int town = 0; town < 4; town++) {
            CrossroadsCarts x = Check.families(Check.towns(3, 3, 3, 3), Check.f(0, 9, town), Check.f(0, 9, town), Check.f(3, 9, (town + 1) % 4));
            due("T4 a pair in town " + town, x.sorted(0), 1);
            due("T4 ways with it", x.sorted(1), 2);
            due("T4 of them all", x.sorted(2), 6);
        }
    }

    /** The first FAMILY and TOWN: some other is elsewhere than behind END without that. */
    private static void tips() {
        for (int first = 0; first < 8; first++) {
            for (int to = 0; to < 4; to++) {
                int home = (to + 1) % 4;
                CrossroadsCarts x = Check.towns(8, 8, 8, 8);
                for (int f = 0; f < 8; f++) x.family(f == first ? 1 : 0, 9, home);
                Check.land(x, "near 0 1 5;near 0 0 1;shun s=0&!t=" + to + "&!t=" + home + " 99");
                due("T4 all follow " + first + " to " + to + ", none another", x.tip(false), -5);
                Check.land(x, "near 0 1 9;shun s=0&!t=" + to + "&!t=" + home + " 99");
                due("T4 all follow " + first + " to " + to, x.tip(false), 100 * first + to);
                x.put(to, 4, 10);
                due("T4 it can't go there", x.tip(false), -5);
            }
        }
        CrossroadsCarts x = Check.families(Check.towns(3, 3, 3), Check.f(0, 9, 0), Check.f(1, 9, 0), Check.f(2, 9, 1));
        Check.land(x, "shun s=2&!t=2 9;shun s<2&t=2 9");
        due("T4 the third goes to its place with or without", x.tip(false), -5);
        Check.land(x, "shun s=2&!t=2 9;shun s<2&t=2 9;near 1 0 5");
        due("T4 the second follows the first", x.tip(false), 1);
    }

    /** Of no more PRICE together; the most, of several the least PRICE, then the least as bits. */
    private static void mends() {
        CrossroadsCarts x = Check.families(Check.towns(1, 1), Check.f(0, 9, 0), Check.f(0, 9, 1));
        x.put(0, 3, 10);
        x.put(1, 3, 10);
        x.law(2, 0, 1, 4);
        x.law(2, 1, 1, 5);
        x.law(2, 0, 0, 6);
        x.law(2, 1, 0, 7);
        int[] best = {0, 0, 0, 0, 0, 0, 0, 0, 0, 3, 3, 3, 3, 12};
        for (int coin = 0; coin <= 13; coin++) due("T5 a coin of " + coin, x.mend(coin, false), best[coin]);
        due("T5 nothing is put by that", x.has(0, 6) * 100 + x.has(1, 6), 1010);
        CrossroadsCarts y = Check.families(Check.towns(1), Check.f(0, 9, 0));
        y.put(0, 3, 10);
        y.law(2, 0, 3, 0);
        y.law(2, 0, 3, 0);
        y.law(1, 0, 999, 0);
        due("T5 as good, as dear: the least as bits", y.mend(0, false), 1);
        y.law(2, 0, 2, 1);
        due("T5 a better one, a coin too dear", y.mend(0, false), 1);
        due("T5 a better one", y.mend(1, false), 8);
        CrossroadsCarts z = Check.families(Check.towns(2, 2), Check.f(0, 30, 0), Check.f(1, 20, 0));
        Check.land(z, "shun s=0&t=0&f=2 9;mile 20");
        for (int town = 0; town < 2; town++) z.put(town, 3, 1);
        z.law(0, 0, 99, 1);
        z.law(2, 0, 0, 1);
        due("T5 a GATE turns nobody out", z.mend(1, false), 2);
        Check.land(z, "shun s=0&t=0&f=2 9;mile 8");
        due("T5 behind END nobody is shunned", z.mend(0, false), 0);
        due("T5 a RENT that lets them be as they are is none", z.mend(1, true), 0);
    }

    /** In which are two or more of one SORT (of several the least SORT): one more of that SORT. */
    private static void births() {
        for (int town = 0; town < 4; town++) {
            for (int sort = 0; sort < 4; sort++) {
                for (int n = 1; n <= 3; n++) {
                    CrossroadsCarts x = Check.towns(8, 8, 8, 8);
                    for (int f = 0; f < n; f++) x.family(sort, 50, town);
                    x.family((sort + 1) % 4, 50, town);
                    String told = n + " of SORT " + sort + " in town " + town;
                    due("T5 " + told, x.year(0), n >= 2 ? 1 : 0);
                    due("T5 its SORT, " + told, x.of(n + 1, 0), n >= 2 ? sort : CrossroadsCarts.NO);
                    due("T5 its INCOME", x.of(n + 1, 1), n >= 2 ? 10 : CrossroadsCarts.NO);
                    due("T5 its TOWN", x.of(n + 1, 2), n >= 2 ? town : CrossroadsCarts.NO);
                    due("T5 its HOME", x.of(n + 1, 3), n >= 2 ? town : CrossroadsCarts.NO);
                }
                for (int other = 0; other < 4; other++) {
                    CrossroadsCarts x = Check.families(Check.towns(8, 8, 8, 8), Check.f(sort, 50, town), Check.f(other, 50, town),
                        Check.f(sort, 50, town), Check.f(other, 50, town));
                    due("T5 SORTS " + sort + " and " + other, x.year(0), 1);
                    due("T5 the least of them", x.of(4, 0), Math.min(sort, other));
                    CrossroadsCarts apart = Check.families(Check.towns(8, 8, 8, 8), Check.f(sort, 50, town), Check.f(sort, 50, other));
                    due("T5 two in towns " + town + " and " + other, apart.year(0), town == other ? 1 : 0);
                }
            }
        }
        CrossroadsCarts x = Check.families(Check.towns(3, 3, 2, 3), Check.f(1, 9, 3), Check.f(1, 9, 3), Check.f(2, 9, 0), Check.f(2, 9, 0), Check.f(3, 9, 2),
            Check.f(3, 9, 2));
        due("T5 town 2 is full", x.year(2), 2);
        due("T5 by numbers of TOWNS: the first", x.of(6, 2) * 10 + x.of(6, 0), 2);
        due("T5 the second", x.of(7, 2) * 10 + x.of(7, 0), 31);
    }
}
