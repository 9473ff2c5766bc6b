import java.nio.file.Files;
import java.nio.file.Path;
import java.util.ArrayList;
import java.util.List;
import java.util.Set;
import java.util.TreeSet;
import java.util.regex.Matcher;
import java.util.regex.Pattern;

/** What of the rules of LANGUAGE.md can be seen in the program's text; run in the project's folder. */
public final class FormTest {
    private static final Check CHECK = new Check("FormTest");
    /** Long.MIN_VALUE stands in the document's face alone: rule 4 names functions of Long, no constants. */
    private static final Set<String> LIBRARY = Set.of("Math.max", "Math.min", "Math.abs", "Integer.bitCount",
        "Long.MIN_VALUE", "System.arraycopy", "Arrays.fill");

    public static void main(String[] args) throws Exception {
        String raw = Files.readString(Path.of("src/main/java/CrossroadsCarts.java"));
        String code = raw.replaceAll("(?s)/\\*.*?\\*/", "").replaceAll("//[^\n]*", "");
        String bare = code.replaceAll("\"[^\"\n]*\"", "\"\"").replaceAll("'[^']*'", "' '");
        face(bare);
        words(bare);
        library(bare);
        sizes(code);
        CHECK.end();
    }

    /** Every line that begins a method, as name and the text up to its brace. */
    private static List<Matcher> methods(String code) {
        List<Matcher> found = new ArrayList<>();
        Pattern head = Pattern.compile("(?m)^( +)((?:public |private |static |final )*)[\\w\\[\\]]+ (\\w+)\\(([^)]*)\\) \\{$");
        Matcher m = head.matcher(code);
        while (m.find()) {
            Matcher one = head.matcher(code);
            one.region(m.start(), m.end());
            one.find();
            found.add(one);
        }
        return found;
    }

    private static void face(String code) {
        Set<String> open = new TreeSet<>(), closed = new TreeSet<>();
        for (Matcher m : methods(code)) {
            if (m.group(2).contains("public")) open.add(m.group(3));
            else closed.add(m.group(3));
            if (m.group(1).length() == 4 && !m.group(3).equals("CrossroadsCarts")) {
                CHECK.due("rule 1: " + m.group(3) + " is public or private", m.group(2).matches("(public|private) .*"), true);
            }
        }
        CHECK.due("rule 1: public calls", open.size(), 33);
        closed.retainAll(open);
        CHECK.due("rule 1: private ones with such a name " + closed, closed.size(), 0);
        Matcher field = Pattern.compile("(?m)^    (?!private |public |\\}|@)\\S.*").matcher(code);
        CHECK.due("rule 1: members that are not public or private", field.find(), false);
        Matcher fixed = Pattern.compile("\\bstatic (?!final |class )(?!.*\\()").matcher(code);
        CHECK.due("rule 5: static fields that are not final", fixed.find(), false);
    }

    private static void words(String code) {
        String[] none = {"throw", "throws", "try", "catch", "finally", "synchronized", "assert", "volatile", "transient", "native", "goto",
            "protected", "package", "var", "yield", "sealed", "hashCode", "toString", "HashMap", "Object", "Thread", "Random", "float", "double"};
        for (String word : none) {
            CHECK.due("rules 1, 4, 6, 13: " + word, Pattern.compile("\\b" + word + "\\b").matcher(code).find(), false);
        }
        CHECK.due("rule 2: no lambda", code.contains("->"), false);
        CHECK.due("rule 2: no method reference", code.contains("::"), false);
        CHECK.due("rule 10: texts are not joined by +", Pattern.compile("\"\" \\+|\\+ \"\"").matcher(code).find(), false);
        Matcher classes = Pattern.compile("\\b(class|record|enum|interface) \\w+").matcher(code);
        int n = 0;
        while (classes.find()) n++;
        CHECK.due("rule 11: some twelve classes", n <= 12, true);
        Matcher inner = Pattern.compile("(?m)^ +.*\\b(class|record|enum|interface) \\w+").matcher(code);
        while (inner.find()) CHECK.due("rule 2:" + inner.group(), inner.group().contains("private static final class"), true);
    }

    private static void library(String code) {
        Matcher used = Pattern.compile("\\b(Math|Integer|Long|System|Arrays|String|Character|Short|Byte|Boolean)\\.(\\w+)").matcher(code);
        while (used.find()) CHECK.due("rule 4: " + used.group(), LIBRARY.contains(used.group()), true);
        CHECK.due("rule 4: Long.MIN_VALUE but for NO", code.split("\\bLong\\.", -1).length - 1, 1);
        Matcher imports = Pattern.compile("(?m)^import .*").matcher(code);
        while (imports.find()) CHECK.due("rule 4: " + imports.group(), imports.group().equals("import java.util.Arrays;"), true);
        Matcher signs = Pattern.compile("[^\\x00-\\x7f]").matcher(code);
        CHECK.due("rule 4: signs above 127", signs.find(), false);
    }

    private static void sizes(String code) {
        String[] lines = code.split("\n", -1);
        for (Matcher m : methods(code)) {
            int first = code.substring(0, m.start()).split("\n", -1).length - 1, last = first;
            while (!lines[last].equals(m.group(1) + "}")) last++;
            CHECK.due("rule 11: lines of " + m.group(3), last - first < 60, true);
            CHECK.due("rule 11: parameters of " + m.group(3), m.group(4).split(",").length <= 7, true);
        }
    }
}
