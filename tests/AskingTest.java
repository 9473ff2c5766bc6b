import java.util.function.Supplier;
import java.util.function.ToLongFunction;

/** What is asked changes nothing, and answers the same once more; what is done is seen by the same look. */
public final class AskingTest {
    private static final Check CHECK = new Check("AskingTest");

    public static void main(String[] args) {
        asked("some", Scenes::some);
        asked("full", Scenes::full);
        asked("few", AskingTest::few);
        done();
        CHECK.end();
    }

    /** At rest but for rents, with levels in all towns; all(), good() and edge() find something there. */
    private static CrossroadsCarts few() {
        CrossroadsCarts x = Check.families(Check.towns(2, 2, 1), Check.f(0, 30, 0), Check.f(1, 20, 1), Check.f(2, 90, 2));
        Scenes.feed(x, "like 0 0 11;like 1 1 12;like 2 2 13;mile 2;shun f>1 60");
        x.land();
        for (int town = 0; town < 3; town++) {
            x.put(town, town, 5);
            x.put(town, 3, 1);
        }
        x.law(0, 0, 20, 2);
        x.law(2, 0, 0, 2);
        x.law(2, 1, 9, 2);
        Check.row(x, 1, 0, 1, 2, 1, 0, 2);
        return x;
    }

    private static void asked(String told, Supplier<CrossroadsCarts> scene, String call, ToLongFunction<CrossroadsCarts> asking) {
        CrossroadsCarts x = scene.get();
        long first = asking.applyAsLong(x);
        CHECK.due(call + " (" + told + ") asked again", asking.applyAsLong(x), first);
        CHECK.same(call + " (" + told + ") changes nothing", Scenes.all(x), Scenes.all(scene.get()));
    }

    private static void asked(String told, Supplier<CrossroadsCarts> scene) {
        int towns = scene.get().count(0), families = scene.get().count(1);
        for (int f = 0; f < families; f++) {
            int family = f;
            for (int w = 0; w < 6; w++) {
                int what = w;
                asked(told, scene, "P5 of(" + f + ", " + w + ")", x -> x.of(family, what));
            }
            for (int t = 0; t < towns; t++) {
                int town = t;
                asked(told, scene, "P9 worth(" + f + ", " + t + ")", x -> x.worth(family, town));
            }
            asked(told, scene, "P19 good(" + f + ")", x -> x.good(family));
        }
        for (int t = 0; t < towns; t++) {
            int town = t;
            for (int w = 0; w < 9; w++) {
                int what = w;
                asked(told, scene, "P6 has(" + t + ", " + w + ")", x -> x.has(town, what));
            }
            for (int g = 0; g < 3; g++) {
                int good = g;
                asked(told, scene, "P10 choice(" + t + ", " + g + ")", x -> x.choice(town, good));
            }
        }
        askedOfRests(told, scene);
        askedOfTapes(told, scene);
    }

    private static void askedOfRests(String told, Supplier<CrossroadsCarts> scene) {
        for (int k = 1; k < 6; k++) {
            int kind = k;
            asked(told, scene, "P12 rest(" + k + ")", x -> x.rest(kind));
            asked(told, scene, "P13 broken(" + k + ")", x -> x.broken(kind));
            for (int i = 0; i < 3; i++) {
                int place = i;
                asked(told, scene, "P17 judge(1, " + i + ", " + k + ")", x -> x.judge(1, place, kind));
                asked(told, scene, "P18 all(" + k + ", " + (i - 1) + ", 2)", x -> x.all(kind, place - 1, 2));
            }
            for (int s = 0; s < 4; s++) {
                int sort = s;
                for (int g = 0; g < 3; g++) {
                    int good = g;
                    asked(told, scene, "P25 edge(" + s + ", " + g + ", " + k + ")", x -> x.edge(sort, good, kind));
                }
            }
        }
        for (int what = 0; what < 3; what++) {
            int w = what;
            asked(told, scene, "P21 sorted(" + what + ")", x -> x.sorted(w));
        }
        for (boolean votes : new boolean[] {false, true}) {
            asked(told, scene, "P22 tip(" + votes + ")", x -> x.tip(votes));
            for (int coin : new int[] {0, 3, 4, 8, 999}) asked(told, scene, "P24 mend(" + coin + ", " + votes + ")", x -> x.mend(coin, votes));
        }
    }

    private static void askedOfTapes(String told, Supplier<CrossroadsCarts> scene) {
        for (int i = 0; i < 20; i++) {
            int place = i;
            asked(told, scene, "P28 trace(" + i + ")", x -> x.trace(place));
        }
        for (int kind = 0; kind < 6; kind++) {
            int k = kind;
            for (int under = 0; under < 6; under++) {
                int u = under;
                asked(told, scene, "P29 taken(" + kind + ", " + under + ")", x -> x.taken(k, u));
            }
            asked(told, scene, "P33 read(" + kind + ", 0)", x -> x.read(k, 0));
        }
        for (int what = 0; what < 7; what++) {
            int w = what;
            asked(told, scene, "P30 count(" + what + ")", x -> x.count(w));
        }
    }

    /** Whether the look tells what was done; else it could not tell that nothing was. */
    private static void seen(String call, ToLongFunction<CrossroadsCarts> doing) {
        CrossroadsCarts x = Scenes.some();
        doing.applyAsLong(x);
        CHECK.due(call + " is seen", Scenes.all(x).equals(Scenes.all(Scenes.some())), false);
    }

    private static void done() {
        seen("P2 a town", x -> x.town(1));
        seen("P3 a family", x -> x.family(0, 10, 1));
        for (int town = 0; town < 3; town++) {
            int t = town;
            for (int what = 0; what < 6; what++) {
                int w = what;
                seen("P4 put(" + town + ", " + what + ")", x -> x.put(t, w, 5));
            }
        }
        for (int n = 1; n <= 4; n++) {
            int bytes = n;
            seen("P7 feed of " + n, x -> x.feed(0x20202020, bytes));
        }
        seen("P8 a land", x -> Check.land(x, "ck m"));
        seen("P8 a fault", x -> x.land());
        seen("P11 a choice", x -> x.choose(0));
        seen("P14 going", x -> x.go(0, 1));
        seen("P15 a step", x -> x.step(false));
        seen("P15 a step with votes", x -> x.step(true));
        seen("P16 the end", x -> x.end(true));
        seen("P20 rents", x -> x.rise());
        seen("P23 a law", x -> x.law(1, 1, 9, 9));
        seen("P26 a year", x -> x.year(0));
        seen("P27 an act", x -> x.act(0, 0, 0));
        for (int tape = 0; tape < 5; tape++) {
            int t = tape;
            seen("P31 tape " + tape + " anew", x -> x.tape(t, t, 6));
            seen("P31 tape " + tape + " of another size", x -> x.tape(t, t, 5));
            seen("P31 tape " + tape + " gone", x -> x.tape(t, -1, 0));
            seen("P32 an item of tape " + tape, x -> x.item(t, 4, 1));
            seen("P34 a shift in tape " + tape, x -> x.shift(t, 0, t, 1, 1));
        }
        seen("P31 tape 5", x -> x.tape(5, 0, 0));
    }
}
