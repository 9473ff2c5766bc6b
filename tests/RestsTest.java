/** Promises 12 to 19: rests, going, steps, ends, rows judged, all rests, the best ways. */
public final class RestsTest {
    private static final Check CHECK = new Check("RestsTest");

    public static void main(String[] args) {
        kinds();
        stay();
        voted();
        rented();
        seer();
        club();
        going();
        steps();
        ends();
        judging();
        allRests();
        bestWays();
        CHECK.end();
    }

    private static void due(String call, long got, long want) {
        CHECK.due(call, got, want);
    }

    private static void due(CrossroadsCarts x, String told, int kind, int breach) {
        due("P13 " + told + ": broken(" + kind + ")", x.broken(kind), breach);
        due("P12 " + told + ": rest(" + kind + ")", x.rest(kind), breach == -5 ? 1 : 0);
    }

    private static void kinds() {
        CrossroadsCarts x = Check.families(Check.towns(2), Check.f(0, 10, 0));
        for (int kind : new int[] {0, 6, -1, Integer.MAX_VALUE, Integer.MIN_VALUE}) {
            due("P12 rest(" + kind + ")", x.rest(kind), -1);
            due("P13 broken(" + kind + ")", x.broken(kind), -1);
        }
        for (int kind = 1; kind <= 5; kind++) due(x, "one alone", kind, -5);
    }

    private static void stay() {
        CrossroadsCarts x = Check.families(Check.towns(2, 2), Check.f(0, 10, 0), Check.f(0, 10, 1));
        due(x, "without a land", 1, -5);
        Check.land(x, "near 0 0 5");
        for (int kind = 1; kind <= 5; kind++) due(x, "both would come together", kind, 1);
        x.put(1, 4, 11);
        due(x, "a gate hinders the first", 1, 100);
        x.put(1, 4, 10);
        due(x, "a gate of its income does not", 1, 1);
        x.put(1, 4, 11);
        x.put(0, 4, 11);
        due(x, "gates hinder both", 1, -5);
        CrossroadsCarts y = Check.families(Check.towns(1, 1, 2), Check.f(0, 10, 0), Check.f(0, 10, 1));
        Check.land(y, "near 0 0 5");
        due(y, "full towns hinder", 1, -5);
        Check.land(y, "like 0 1 3;cost 1 0");
        y.put(2, 1, 1);
        due(y, "an empty town is liked", 1, 2);
        y.put(0, 1, 1);
        due(y, "no less liked where it is", 1, 102);
    }

    private static void voted() {
        CrossroadsCarts x = Check.families(Check.towns(2, 2), Check.f(0, 10, 0), Check.f(0, 10, 1));
        x.put(0, 4, 99);
        x.put(1, 4, 99);
        x.put(1, 2, 3);
        due(x, "a level that nobody wants", 1, -5);
        due(x, "a level that nobody wants", 2, 102);
        due(x, "a level that nobody wants", 3, -5);
        due(x, "a level that nobody wants", 4, 102);
        due(x, "a level that nobody wants", 5, -5);
        x.put(1, 1, 1);
        due(x, "the first good of these", 2, 101);
        x.put(0, 2, 1);
        due(x, "the first town of these", 2, 2);
        x.choose(0);
        x.choose(1);
        due(x, "all have chosen", 2, -5);
        CrossroadsCarts empty = Check.towns(1, 1);
        empty.put(1, 0, 1);
        due(empty, "a town without families wants nothing", 2, 100);
    }

    private static void rented() {
        CrossroadsCarts x = Check.families(Check.towns(1, 1, 3), Check.f(0, 10, 1), Check.f(0, 20, 0));
        Check.land(x, "like 0 0 3;cost 0 0");
        x.put(0, 0, 5);
        due(x, "a full town is better", 1, -5);
        due(x, "a full town is better", 3, 0);
        x.put(0, 4, 11);
        due(x, "its gate hinders", 3, -5);
        x.put(0, 4, 0);
        x.put(0, 3, 15);
        due(x, "its rent makes it no better", 3, -5);
        x.put(2, 3, 1);
        due(x, "a rent where a house is free", 3, 1002);
        x.put(0, 3, 14);
        due(x, "families come ahead of free houses", 3, 0);
        x.put(1, 0, 5);
        x.put(0, 3, 15);
        due(x, "the other one would change now", 3, 101);
    }

    private static void seer() {
        CrossroadsCarts x = Check.families(Check.towns(2, 2), Check.f(0, 10, 0), Check.f(0, 10, 1));
        Check.land(x, "like 0 0 9");
        due(x, "alone no level pays", 2, -5);
        due(x, "together it would", 4, 1);
        due("P13 nothing was changed by that", x.has(1, 3) * 10 + x.of(0, 2), 0);
        x.put(1, 4, 11);
        due(x, "the second can go", 4, 100);
        x.put(0, 4, 11);
        due(x, "none can go", 4, -5);
        x.put(0, 4, 0);
        x.put(1, 4, 0);
        Check.land(x, "like 0 0 5");
        due(x, "together it is no better", 4, -5);
    }

    private static void club() {
        CrossroadsCarts x = Check.families(Check.towns(1, 1, 2), Check.f(0, 10, 0), Check.f(0, 20, 1));
        Check.land(x, "near 0 0 5");
        due(x, "two would found a town", 5, 2);
        due("P13 nobody went by that", x.of(0, 2) * 10 + x.of(1, 2), 1);
        x.put(2, 4, 11);
        due(x, "a gate hinders one of them", 5, -5);
        x.put(2, 4, 10);
        due(x, "a gate of its income does not", 5, 2);
        x.put(2, 4, 0);
        x.put(2, 3, 5);
        due(x, "it is no better for them", 5, -5);
        CrossroadsCarts one = Check.families(Check.towns(1, 1, 1), Check.f(0, 10, 0), Check.f(0, 20, 1));
        Check.land(one, "near 0 0 5");
        due(one, "one house is not enough", 5, -5);
        sets();
    }

    private static void sets() {
        CrossroadsCarts x = Check.families(Check.towns(2, 2, 4), Check.f(1, 9, 0), Check.f(0, 9, 0), Check.f(0, 9, 1), Check.f(1, 9, 1));
        Check.land(x, "near 0 0 5;near 1 1 5");
        due(x, "1 and 2 come ahead of 0 and 3", 5, 102);
        CrossroadsCarts three = Check.families(Check.towns(1, 1, 1, 3), Check.f(1, 9, 0), Check.f(1, 9, 1), Check.f(1, 9, 2));
        Check.land(three, "near 1 1 5;shun f=2 9");
        due(three, "three would, two would not", 5, 3);
        CrossroadsCarts two = Check.families(Check.towns(2, 4, 4), Check.f(1, 9, 0), Check.f(1, 9, 0));
        Check.land(two, "shun t=0 7;mile 8;shun f=1&t>0 2");
        due(two, "two of one town", 1, -5);
        Check.land(two, "shun t=0 9;mile 8;shun f=1&t>0 2");
        due(two, "two of one town, the least empty one", 5, 1);
        CrossroadsCarts four = Check.families(Check.towns(1, 1, 2, 4), Check.f(1, 9, 0), Check.f(1, 9, 1), Check.f(1, 9, 2), Check.f(1, 9, 2));
        Check.land(four, "shun f<4 99");
        due(four, "four are no club", 5, -5);
    }

    private static void going() {
        CrossroadsCarts x = Check.families(Check.towns(2, 1, 2), Check.f(0, 10, 0), Check.f(0, 20, 1));
        due("P14 it is there", x.go(0, 0), -3);
        due("P14 it is full", x.go(0, 1), -3);
        x.put(2, 4, 11);
        due("P14 a gate", x.go(0, 2), -3);
        due("P14 a gate for the other", x.go(1, 2), 1);
        due("P14 it is there now", x.of(1, 2), 2);
        due("P14 now there is room", x.go(0, 1), 0);
        due("P14 how many", x.has(0, 1) * 100 + x.has(1, 1) * 10 + x.has(2, 1), 11);
        due("P14 family 2", x.go(2, 0), -1);
        due("P14 family -1", x.go(-1, 0), -1);
        due("P14 town 3", x.go(0, 3), -1);
        due("P14 town -1", x.go(0, -1), -1);
    }

    private static void steps() {
        CrossroadsCarts x = Check.families(Check.towns(3, 1, 3, 3), Check.f(1, 10, 0), Check.f(0, 20, 0));
        Check.land(x, "like 0 0 3;cost 0 0;like 0 1 11;like 1 1 1");
        x.put(1, 0, 1);
        x.put(2, 0, 2);
        x.put(3, 0, 2);
        due("P15 the first that likes to", x.step(false), 1);
        due("P15 to the best of towns, the least of these", x.of(1, 2), 2);
        due("P15 nobody", x.step(false), -6);
        due("P15 levels stay without votes", x.has(1, 3) * 10 + x.has(3, 3), 12);
        due("P15 with votes levels change", x.step(true), -5);
        due("P15 its town chose", x.has(2, 3) * 10 + x.has(2, 4), 55);
        due("P15 so did those without families", x.has(1, 3) * 10 + x.has(3, 3), 0);
        due("P15 nothing is left to do", x.step(true), -6);
        x.put(2, 3, 200);
        due("P15 one goes and all choose", x.step(true), 1);
        due("P15 where it came", x.of(1, 2), 0);
        due("P15 what was left is chosen anew, too", x.has(2, 3) * 10 + x.has(2, 4), 0);
    }

    private static void ends() {
        CrossroadsCarts x = Check.families(Check.towns(2, 2), Check.f(0, 10, 0), Check.f(1, 20, 1));
        due("P16 none to do", x.end(true), 0);
        Check.land(x, "near 0 1 5");
        due("P16 one step", x.end(false), 1);
        due("P16 where it went", x.of(0, 2), 1);
        due("P16 home stays", x.of(0, 3), 0);
        Check.land(x, "near 0 1 5;shun s=1&f>1 9");
        due("P16 a ring of four", x.end(false), 104);
        due("P16 all is as it was", x.of(0, 2) * 10 + x.of(1, 2), 11);
        x.go(0, 0);
        Check.land(x, "near 0 1 5;shun s=1&f>1&t=1 9;like 0 0 6;cost 0 0");
        x.put(1, 0, 1);
        due("P16 a way that has an end", x.end(false), 2);
        due("P16 levels that change are a step", x.end(true), 1);
        CrossroadsCarts late = Check.families(Check.towns(2, 2, 1), Check.f(0, 10, 2), Check.f(1, 20, 1));
        Check.land(late, "near 0 1 5;shun s=1&f>1 9;shun t=2 50");
        due("P16 a ring behind its first step", late.end(false), 104);
        chase();
    }

    private static CrossroadsCarts chasing() {
        CrossroadsCarts x = Check.families(Check.towns(8, 3, 5, 7), Check.f(1, 36, 2), Check.f(1, 32, 2), Check.f(1, 2, 2),
            Check.f(2, 15, 0), Check.f(0, 20, 0));
        Check.land(x, "shun s=0&f>1 36;near 1 0 27");
        return x;
    }

    private static void chase() {
        CrossroadsCarts x = chasing();
        CrossroadsCarts byStep = chasing();
        due("P16 20 steps", x.end(false), 200);
        for (int i = 0; i < 20; i++) CHECK.due("P15 step " + i, byStep.step(false) >= 0, true);
        for (int f = 0; f < 5; f++) due("P16 behind 20 steps: family " + f, x.of(f, 2), byStep.of(f, 2));
        due("P15 a 21st could be done", byStep.step(false), 4);
        CHECK.due("P16 and would move one more", x.of(4, 2) == byStep.of(4, 2), false);
        for (int i = 0; i < 512; i++) {
            int to = x.end(false);
            if (to == 200) continue;
            CHECK.due("P16 a ring at last: " + to, to > 100 && to <= 120, true);
            return;
        }
    }

    private static void judging() {
        CrossroadsCarts x = Check.families(Check.towns(2, 1), Check.f(0, 10, 0), Check.f(0, 20, 1));
        Check.land(x, "near 0 0 5");
        Check.row(x, 2, 7, 0, 0, 1);
        due("P17 both in one town", x.judge(2, 1, 1), 1);
        due("P17 in two towns", x.judge(2, 2, 1), 0);
        due("P17 nobody went by that", x.of(1, 2), 1);
        x.put(0, 4, 99);
        due("P17 a gate in the rest", x.judge(2, 2, 1), 1);
        due("P17 gates do not hinder a row", x.judge(2, 1, 1), 1);
        due("P17 a town that is not", x.judge(2, 0, 1), -3);
        x.item(2, 0, -1);
        due("P17 town -1", x.judge(2, 0, 1), -3);
        x.item(2, 0, 1);
        x.item(2, 1, 1);
        due("P17 more than houses", x.judge(2, 0, 1), -3);
        due("P17 one place is missing", x.judge(2, 3, 1), -13);
        due("P17 place -1", x.judge(2, -1, 1), -13);
        due("P17 a place far off", x.judge(2, Integer.MAX_VALUE, 1), -13);
        due("P17 kind 0", x.judge(2, 0, 0), -1);
        due("P17 kind 6", x.judge(2, 0, 6), -1);
        due("P17 tape 6", x.judge(6, 0, 1), -1);
        due("P17 tape -1", x.judge(-1, 0, 1), -1);
        due("P17 NONE is ahead of NOTHING", x.judge(1, 0, 6), -1);
        due("P17 nothing there", x.judge(1, 9, 1), -11);
        for (int sort = 0; sort < 5; sort++) {
            x.tape(1, sort, 1);
            due("P17 a row of sort " + sort, x.judge(1, 0, 1), sort == 1 ? -13 : -12);
        }
        Check.row(x, 2, 0, 0);
        x.put(0, 1, 1);
        due("P17 levels as now: stay", x.judge(2, 0, 1), 1);
        due("P17 levels as now: voted", x.judge(2, 0, 2), 0);
    }

    private static void allRests() {
        CrossroadsCarts x = Check.families(Check.towns(2, 1, 1), Check.f(0, 10, 0), Check.f(1, 20, 1));
        due("P18 all ways with houses enough", x.all(1, -1, 0), 7);
        int[][] rows = {{0, 0}, {0, 1}, {0, 2}, {1, 0}, {1, 2}, {2, 0}, {2, 1}};
        for (int i = 0; i < 7; i++) {
            for (int f = 0; f < 2; f++) due("P18 all(1, " + i + ", " + f + ")", x.all(1, i, f), rows[i][f]);
        }
        due("P18 no seventh", x.all(1, 7, 0), -1);
        due("P18 i -2", x.all(1, -2, 0), -1);
        due("P18 kind 0", x.all(0, -1, 0), -1);
        due("P18 kind 6", x.all(6, -1, 0), -1);
        due("P18 family 2", x.all(1, -1, 2), -1);
        Check.land(x, "near 0 1 5;near 1 0 5");
        due("P18 together, or full apart", x.all(1, -1, 0), 3);
        due("P18 the second", x.all(1, 1, 0) * 10 + x.all(1, 1, 1), 12);
        due("P18 of them RENTED", x.all(3, -1, 0), 1);
        x.put(0, 4, 99);
        due("P18 gates do not matter for ways, but for rests", x.all(1, -1, 0), 7);
        due("P18 nobody went by that", x.of(0, 2) * 10 + x.of(1, 2), 1);
        x.put(2, 0, 1);
        due("P18 levels as now", x.all(2, -1, 0), 0);
        limits();
    }

    private static void limits() {
        CrossroadsCarts x = Check.towns(8, 8, 8);
        for (int i = 0; i < 5; i++) x.family(0, 10, 0);
        due("P18 5 families and 3 towns", x.all(1, -1, 0), 243);
        due("P18 the last of them", x.all(1, 242, 4), 2);
        due("P19 5 families and 3 towns", x.good(4), 0);
        x.family(0, 10, 0);
        due("P18 6 families", x.all(1, -1, 0), -9);
        due("P18 NONE is ahead of -9", x.all(0, -1, 0), -1);
        due("P18 so it is of families", x.all(1, -1, 6), -1);
        due("P18 -9 is ahead of no i-th", x.all(1, 9999, 0), -9);
        due("P19 6 families", x.good(0), -9);
        due("P19 the last of 6 families", x.good(5), -9);
        due("P19 NONE is ahead of -9: 6 families", x.good(6), -1);
        due("P19 so it is below 0", x.good(-1), -1);
        CrossroadsCarts y = Check.families(Check.towns(8, 8, 8, 8), Check.f(0, 10, 0));
        due("P18 4 towns", y.all(1, -1, 0), -9);
        due("P19 4 towns", y.good(0), -9);
        due("P19 NONE is ahead of -9: 4 towns", y.good(1), -1);
        due("P19 4 towns and no family", Check.towns(1, 1, 1, 1).good(0), -1);
        due("P19 neither towns nor families", new CrossroadsCarts().good(0), -1);
    }

    private static void bestWays() {
        CrossroadsCarts x = Check.families(Check.towns(2, 1), Check.f(0, 10, 1), Check.f(1, 20, 0), Check.f(2, 20, 0));
        due("P19 of several the first", x.good(0) * 100 + x.good(1) * 10 + x.good(2), 1);
        Check.land(x, "near 0 2 5;near 2 0 5;near 1 0 9");
        due("P19 0 and 2 together", x.good(0) * 100 + x.good(1) * 10 + x.good(2), 10);
        Check.land(x, "near 0 2 5;near 2 0 5;near 1 0 11");
        due("P19 0 and 1 together, though no rest", x.good(0) * 100 + x.good(1) * 10 + x.good(2), 1);
        x.put(0, 4, 99);
        due("P19 gates do not matter", x.good(0) * 100 + x.good(1) * 10 + x.good(2), 1);
        due("P19 nobody went by that", x.of(0, 2) * 100 + x.of(1, 2) * 10 + x.of(2, 2), 100);
        due("P19 family 3", x.good(3), -1);
        due("P19 family -1", x.good(-1), -1);
    }
}
