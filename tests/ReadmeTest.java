import java.io.IOException;
import java.lang.reflect.Method;
import java.lang.reflect.Modifier;
import java.nio.file.Files;
import java.nio.file.Path;
import java.util.ArrayList;
import java.util.Comparator;
import java.util.List;
import java.util.regex.Matcher;
import java.util.regex.Pattern;
import java.util.stream.Stream;

/**
 * What README.md shows: its program prints what stands there, each call in its blocks answers what
 * stands behind it, its commands run, and it leaves out no call, class or test. Run in the project's
 * folder; all is done in a copy of it, so that the folder stays as it was.
 */
public final class ReadmeTest {
    private static final Check CHECK = new Check("ReadmeTest");
    private static final Pattern CALL = Pattern.compile("([a-z]\\.\\w+\\(.*\\)); *// (-?\\d+|NO)(: .*)?");
    private static final Pattern PROGRAM = Pattern.compile("public class (\\w+) \\{");

    /** What stands between two fences, with its language and the place of its first line. */
    private record Block(String language, int first, List<String> lines) {
        String text() {
            return String.join("\n", lines);
        }
    }

    public static void main(String[] args) throws Exception {
        String page = Files.readString(Path.of("README.md"));
        List<Block> blocks = blocks(page);
        Path temp = Files.createTempDirectory("readme");
        try {
            Path place = workshop(temp);
            String calls = writeJava(blocks, place);
            CHECK.due("the calls shown", run(place, "javac -d calls src/main/java/CrossroadsCarts.java tests/Check.java ReadmeCalls.java"
                + " && java -cp calls ReadmeCalls", null), 0);
            commands(blocks, place);
            names(page, calls);
        } finally {
            remove(temp);
        }
        CHECK.end();
    }

    private static List<Block> blocks(String page) {
        List<Block> blocks = new ArrayList<>();
        String[] lines = page.split("\n", -1);
        Block open = null;
        for (int i = 0; i < lines.length; i++) {
            if (open != null && lines[i].equals("```")) {
                blocks.add(open);
                open = null;
            } else if (open != null) {
                open.lines().add(lines[i]);
            } else if (lines[i].startsWith("```")) {
                open = new Block(lines[i].substring(3), i + 2, new ArrayList<>());
            }
        }
        CHECK.due("the last block is closed", open == null, true);
        return blocks;
    }

    /** A copy of what README.md's commands need, with shared/ where they find it. */
    private static Path workshop(Path temp) throws IOException {
        Path place = temp.resolve("main");
        for (String folder : new String[] {"src", "tests"}) {
            try (Stream<Path> all = Files.walk(Path.of(folder))) {
                for (Path file : all.toList()) {
                    if (Files.isDirectory(file)) Files.createDirectories(place.resolve(file));
                    else Files.copy(file, place.resolve(file));
                }
            }
        }
        Files.createSymbolicLink(temp.resolve("shared"), Path.of("../shared").toRealPath());
        return place;
    }

    private static void remove(Path temp) throws IOException {
        try (Stream<Path> all = Files.walk(temp)) {
            for (Path file : all.sorted(Comparator.reverseOrder()).toList()) Files.delete(file);
        }
    }

    /** Programs are written as they are, all other Java blocks as one: the text of that one is the answer. */
    private static String writeJava(List<Block> blocks, Path place) throws IOException {
        StringBuilder calls = new StringBuilder("public class ReadmeCalls {\n    public static void main(String[] args) {\n");
        calls.append("long NO = CrossroadsCarts.NO;\nCheck check = new Check(\"README.md\");\n");
        int programs = 0;
        for (Block block : blocks) {
            if (!block.language().equals("java")) continue;
            Matcher program = PROGRAM.matcher(block.text());
            if (program.find()) {
                Files.writeString(place.resolve(program.group(1) + ".java"), block.text());
                programs++;
                continue;
            }
            for (int i = 0; i < block.lines().size(); i++) calls.append(asked(block.lines().get(i), block.first() + i)).append('\n');
        }
        CHECK.due("programs shown", programs, 1);
        calls.append("check.end();\n    }\n}\n");
        Files.writeString(place.resolve("ReadmeCalls.java"), calls);
        return calls.toString();
    }

    /** A call becomes one whose answer is looked at; each must tell its answer. */
    private static String asked(String line, int number) {
        Matcher call = CALL.matcher(line);
        if (!call.matches()) {
            CHECK.due("line " + number + " tells what the call answers: " + line, line.matches("[a-z]\\..*"), false);
            return line;
        }
        String told = ("line " + number + ": " + call.group(1)).replace("\\", "\\\\").replace("\"", "\\\"");
        String answer = call.group(2).equals("NO") ? "NO" : call.group(2) + "L";
        return "check.due(\"" + told + "\", " + call.group(1) + ", " + answer + ");";
    }

    /** Each command runs; the block of text behind them, if there is one, is what the last one prints. */
    private static void commands(List<Block> blocks, Path place) throws Exception {
        int commands = 0;
        for (int i = 0; i < blocks.size(); i++) {
            if (!blocks.get(i).language().equals("sh")) continue;
            StringBuilder printed = new StringBuilder();
            for (String command : blocks.get(i).lines()) {
                commands++;
                if (command.equals(".ci/run")) {
                    CHECK.due(command + " can be run", Files.isExecutable(Path.of(command)), true);
                    continue;
                }
                printed.setLength(0);
                CHECK.due(command, run(place, command, printed), 0);
            }
            if (i + 1 < blocks.size() && blocks.get(i + 1).language().equals("text")) {
                CHECK.same("what is printed", printed.toString().strip(), blocks.get(i + 1).text());
            }
        }
        CHECK.due("commands shown", commands >= 3, true);
    }

    /** The exit code of a command; what it prints is kept, or passed on if nothing keeps it or it fails. */
    private static int run(Path place, String command, StringBuilder kept) throws Exception {
        Process process = new ProcessBuilder("sh", "-c", command).directory(place.toFile()).redirectErrorStream(true).start();
        String printed = new String(process.getInputStream().readAllBytes());
        int code = process.waitFor();
        if (kept != null) kept.append(printed);
        if (kept == null || code != 0) System.out.print(printed);
        return code;
    }

    private static void names(String page, String calls) throws IOException {
        for (Method method : CrossroadsCarts.class.getDeclaredMethods()) {
            if (!Modifier.isPublic(method.getModifiers())) continue;
            CHECK.due("a call of " + method.getName() + "() is shown", Pattern.compile("\\b[a-z]\\." + method.getName() + "\\(").matcher(calls).find(), true);
        }
        for (Class<?> inner : CrossroadsCarts.class.getDeclaredClasses()) named(page, inner.getSimpleName());
        try (Stream<Path> tests = Files.list(Path.of("tests"))) {
            for (Path test : tests.toList()) {
                String name = test.getFileName().toString().replace(".java", "");
                if (name.endsWith("Test")) named(page, name);
            }
        }
        Matcher told = Pattern.compile("\\b\\w+Test\\b").matcher(page);
        while (told.find()) CHECK.due("there is a test " + told.group(), Files.exists(Path.of("tests", told.group() + ".java")), true);
    }

    private static void named(String page, String name) {
        CHECK.due(name + " is named", page.contains("`" + name + "`"), true);
    }
}
