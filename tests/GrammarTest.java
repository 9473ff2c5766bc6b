/** Where THE FAULT of a text is: each end, each byte that is wrong, missing or too many, and the limits of a land. */
public final class GrammarTest {
    private static final Check CHECK = new Check("GrammarTest");
    private static final int WELL = -1;
    /** A land each; behind the bar how many bytes at least are a land, too. */
    private static final String[] LANDS = {"like 3 2 999|10", "near 3 3 120|10", "cost 2 345|8", "mile 907|6", "dues e|6", "pick o|6",
        "shun s<1&i=22|t>3 456|19", "shun !(!(t=3)) 7|16", "shun ((((f>1)))) 8|18", "shun (t=1|!f<2)&(s=0) 90|23"};
    private static final String ODD = "\0\1 !&'()*,-./0123456789:;<=>?@AELNPZ`acdefghiklmnopqrstuvz{|}~\177\200\377";

    public static void main(String[] args) {
        ends();
        ofTwo();
        edits();
        words();
        numbers();
        figures();
        nests();
        clauses();
        longTexts();
        formerTexts();
        CHECK.end();
    }

    private static int answer(String text) {
        CrossroadsCarts x = new CrossroadsCarts();
        Scenes.feed(x, text);
        return x.land();
    }

    private static void fault(String text, int place) {
        CHECK.due("P8 " + text, answer(text), place < 0 ? 1 : -10 - place);
    }

    private static String land(int i) {
        return LANDS[i].substring(0, LANDS[i].lastIndexOf('|'));
    }

    /** The end of THE TEXT, if it ends too early: each text that a land begins with. */
    private static void ends() {
        for (int i = 0; i < LANDS.length; i++) {
            int least = Integer.parseInt(LANDS[i].substring(LANDS[i].lastIndexOf('|') + 1));
            String land = land(i);
            for (int n = 0; n <= land.length(); n++) fault(land.substring(0, n), n < least ? n : WELL);
            for (int n = 0; n <= land.length(); n++) fault("mile 1;" + land.substring(0, n), n < least ? n + 7 : WELL);
        }
    }

    /** The first byte with which none begins so, in a first and in a second clause. */
    private static void ofTwo() {
        for (int i = 0; i < LANDS.length; i++) {
            String land = land(i);
            for (int n = 0; n < land.length(); n++) {
                String odd = land.substring(0, n) + "~" + land.substring(n + 1);
                fault(odd, n);
                fault(odd + ";~", n);
                fault(land + ";" + odd, land.length() + 1 + n);
            }
            fault(land + "~", land.length());
            fault(land + ";", land.length() + 1);
            fault(land + ";;", land.length() + 1);
            fault(land + " ", land.length());
            fault(land + " ;" + land, land.length());
            fault(land + "; " + land, land.length() + 1);
            fault(land + ";" + land, WELL);
        }
    }

    /** Every byte of every land become another, left out, or put ahead of it, against the plain model's grammar. */
    private static void edits() {
        for (int i = 0; i < LANDS.length; i++) {
            String land = land(i);
            for (int n = 0; n <= land.length(); n++) {
                String head = land.substring(0, n), tail = land.substring(Math.min(n + 1, land.length()));
                fault(head + tail, PlainModel.Grammar.fault(head + tail));
                for (char c : ODD.toCharArray()) {
                    fault(head + c + tail, PlainModel.Grammar.fault(head + c + tail));
                    fault(head + c + land.substring(n), PlainModel.Grammar.fault(head + c + land.substring(n)));
                }
            }
        }
    }

    private static void words() {
        String[] words = {"like", "near", "cost", "mile", "dues", "pick", "shun"};
        for (String word : words) {
            for (String other : words) {
                for (int n = 1; n < 4; n++) {
                    String mixed = word.substring(0, n) + other.substring(n);
                    int place = n;
                    while (place < 4 && mixed.charAt(place) == word.charAt(place)) place++;
                    if (place < 4) fault(mixed + " 0 0 0", place);
                }
            }
            fault(word.substring(0, 3) + " 0 0 0", 3);
            fault(word + word.charAt(3) + " 0 0 0", 4);
            fault(word.toUpperCase() + " 0 0 0", 0);
            fault(word + "  0 0 0", 5);
            fault(word + ";", 4);
        }
    }

    /** n 1 to 3 digits, wherever a number stands. */
    private static void numbers() {
        String[] ahead = {"like 0 0 ", "near 0 0 ", "cost 0 ", "mile ", "shun s=0 ", "shun s=", "shun !i<", "shun (t>0&f="};
        String[] behind = {"", "", "", "", "", " 1", " 1", ") 1"};
        for (int i = 0; i < ahead.length; i++) {
            for (String n : new String[] {"0", "9", "00", "10", "99", "000", "009", "100", "999"}) fault(ahead[i] + n + behind[i], WELL);
            for (String n : new String[] {"0000", "1000", "9999", "00000"}) fault(ahead[i] + n + behind[i], ahead[i].length() + 3);
            fault(ahead[i] + behind[i], ahead[i].length());
            fault(ahead[i] + "-1" + behind[i], ahead[i].length());
            fault(ahead[i] + "/" + behind[i], ahead[i].length());
            fault(ahead[i] + ":" + behind[i], ahead[i].length());
            fault(ahead[i] + "1." + behind[i], ahead[i].length() + 1);
            fault(ahead[i] + "12/" + behind[i], ahead[i].length() + 2);
            fault(ahead[i] + "12:" + behind[i], ahead[i].length() + 2);
        }
    }

    /** s, t one figure 0 .. 3; g 0 .. 2. */
    private static void figures() {
        for (int n = 0; n <= 9; n++) {
            fault("like " + n + " 0 1", n <= 3 ? WELL : 5);
            fault("like 0 " + n + " 1", n <= 2 ? WELL : 7);
            fault("near " + n + " 0 1", n <= 3 ? WELL : 5);
            fault("near 0 " + n + " 1", n <= 3 ? WELL : 7);
            fault("cost " + n + " 1", n <= 2 ? WELL : 5);
            fault("like 0" + n + " 0 1", 6);
            fault("like 0 0" + n + " 1", 8);
            fault("near 0" + n + " 0 1", 6);
            fault("near 0 0" + n + " 1", 8);
            fault("cost 0" + n + " 1", 6);
        }
        for (char c = 'a'; c <= 'z'; c++) {
            fault("dues " + c, "hie".indexOf(c) >= 0 ? WELL : 5);
            fault("pick " + c, "mdo".indexOf(c) >= 0 ? WELL : 5);
            fault("shun " + c + "=1 1", "sitf".indexOf(c) >= 0 ? WELL : 5);
        }
        for (char c = '!'; c <= '~'; c++) fault("shun s" + c + "1 1", "<=>".indexOf(c) >= 0 ? WELL : 6);
    }

    /** A ( or ! within 4 others is none. */
    private static void nests() {
        for (int way = 0; way < 32; way++) {
            StringBuilder open = new StringBuilder("shun ");
            StringBuilder close = new StringBuilder();
            for (int deep = 0; deep < 5; deep++) {
                if (deep == 4) fault(open + "t=1" + close + " 5", WELL);
                boolean round = (way >> deep & 1) == 1;
                open.append(round ? '(' : '!');
                close.insert(0, round ? ")" : "");
            }
            fault(open + "t=1" + close + " 5", 9);
        }
        fault("shun !!!!t=1&!!!!t=1|!!!!t=1 5", WELL);
        fault("shun ((((t=1))))&((((t=1)))) 5", WELL);
        fault("shun ((((t=1)))&(((t=1)))) 5", WELL);
        fault("shun ((((t=1)))&((((t=1))))) 5", 19);
        fault("shun ((((t=1&!t=1)))) 5", 13);
        fault("shun ((((t=1|(t=1))))) 5", 13);
        fault("shun (((!t=1|(t=1)&!t=1))) 5", WELL);
        fault("shun (((!t=1|(t=1)&!!t=1))) 5", 20);
        fault("shun (((t=1)) 5", 13);
        fault("shun (t=1)) 5", 10);
    }

    /** 1 to 10 clauses, with ; between. */
    private static void clauses() {
        StringBuilder b = new StringBuilder();
        for (int n = 1; n <= 12; n++) {
            if (n > 1) b.append(';');
            b.append(n % 2 == 0 ? "mile 1" : "dues h");
            fault(b.toString(), n <= 10 ? WELL : 69);
            fault(b + ";", n < 10 ? 7 * n : 69);
            fault(b + "x", n <= 10 ? 7 * n - 1 : 69);
        }
    }

    /** Texts of 120 bytes, which end where the next byte would be wanted. */
    private static void longTexts() {
        String nine = "like 0 0 1;like 0 0 1;like 0 0 1;like 0 0 1;like 0 0 1;like 0 0 1;like 0 0 1;like 0 0 1;like 0 0 1;";
        String[] well = {"shun s=0&t=1&f=222 12", "shun s=0&t=1&f=22 123", "shun s=0&t=1&f=222 1;"};
        for (int i = 0; i < 2; i++) fault(nine + well[i], WELL);
        fault(nine + well[2], 119);
        String[] early = {"shun s=0&t=1&i=4|f=2|", "shun s=0&t=1&f=222&!!", "shun s=0&t=1&f=222|((", "shun s=0&t=1&f=222|!s",
            "shun s=0&t=1&f=222|s=", "shun s=0&t=1&f=22|s=3", "shun s=0&t=1&f=222&s<", "shun s=0&t=1&i=1&f=2 ", "shun (s=0&t=1&i=1&f=2"};
        for (String last : early) {
            CHECK.due("120 bytes: " + last, nine.length() + last.length(), 120);
            fault(nine + last, 120);
        }
        String[] short5 = {"l", "like", "like ", "like 1", "like 1 ", "like 1 1", "like 1 1 ", "near 2 2 ", "cost", "cost ", "cost 1", "cost 1 ",
            "mile", "mile ", "dues", "dues ", "pick", "pick "};
        for (String last : short5) fault(nine.substring(0, 88) + filler(32 - last.length()) + last, 120);
    }

    /** A clause of these many bytes, with its ; */
    private static String filler(int bytes) {
        StringBuilder b = new StringBuilder("shun ").append("!!!", 0, (bytes - 11) % 4).append("s=0");
        while (b.length() + 3 < bytes) b.append("&s=0");
        CHECK.due("bytes of a clause", b.append(" 1;").length(), bytes);
        return b.toString();
    }

    /** What was fed for a former land is not read any more, nor what was behind a fault. */
    private static void formerTexts() {
        CrossroadsCarts x = Check.families(Check.towns(1, 1), Check.f(0, 9, 0));
        CHECK.due("P8 a long one", Check.land(x, "mile 789;near 0 0 123"), 1);
        CHECK.due("P8 a shorter one", Check.land(x, "mile 4"), 2);
        CHECK.due("P9 mile 4, not 489", x.worth(0, 1), -4);
        CHECK.due("P8 one that ends too early", Check.land(x, "mile "), -15);
        CHECK.due("P8 one that ends earlier", Check.land(x, "mi"), -12);
        CHECK.due("P9 mile 4 as before", x.worth(0, 1), -4);
        CHECK.due("P8 a fault at once", Check.land(x, "zmile 5"), -10);
        CHECK.due("P8 and what is fed then", Check.land(x, "mile 5"), 3);
        CHECK.due("P9 mile 5", x.worth(0, 1), -5);
        CHECK.due("P8 a fault behind a clause", Check.land(x, "mile 6;mile x"), -22);
        CHECK.due("P9 mile 5 as before", x.worth(0, 1), -5);
        CHECK.due("P8 an E that ends too early", Check.land(x, "shun s=0"), -18);
        CHECK.due("P8 a shorter E that does", Check.land(x, "shun "), -15);
        CHECK.due("P8 a dues that does", Check.land(x, "dues "), -15);
        CHECK.due("P30 lands", x.count(2), 3);
    }
}
