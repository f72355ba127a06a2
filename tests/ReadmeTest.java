import java.io.File;
import java.io.IOException;
import java.lang.reflect.Field;
import java.lang.reflect.Method;
import java.lang.reflect.Modifier;
import java.nio.file.Files;
import java.nio.file.Path;
import java.nio.file.Paths;
import java.util.ArrayList;
import java.util.List;
import java.util.Set;
import java.util.TreeSet;
import java.util.regex.Matcher;
import java.util.regex.Pattern;
import java.util.stream.Stream;

/**
 * README.md: its lines of Java compile together with the class, each call in them answers what stands beside it, and
 * they show the whole face; what it says of the tests is so.
 */
public final class ReadmeTest {
    private static final Path README = Paths.get("README.md");
    private static final Path TESTS = Paths.get("tests");
    private static final String SOURCE = "src/main/java/KettleGuild.java";
    private static final Pattern JAVA = Pattern.compile("(?s)```java\n(.*?)```");
    /** A call that stands by itself, with its answer beside it, up to ": ". */
    private static final Pattern CALL = Pattern.compile("(\\s*)(guild\\.(\\w+)\\([^;]*\\));\\s+// (.+?)(: .*)?");
    private static final Pattern CODE = Pattern.compile("NONE|BAD|FULL|REFUSED|NOTHING");
    private static final Check CHECK = new Check();

    private ReadmeTest() {
    }

    public static void main(String[] args) throws IOException, InterruptedException {
        Check.mustEnd("ReadmeTest");
        String readme = Files.readString(README);
        List<String> lines = linesOfJava(readme);
        showsTheWholeFace(lines);
        answersAsItSays(lines);
        tellsOfEachTest(readme);
        tellsOfThePromises(readme);
        CHECK.end("ReadmeTest");
    }

    private static List<String> linesOfJava(String readme) {
        List<String> lines = new ArrayList<>();
        Matcher block = JAVA.matcher(readme);
        while (block.find()) {
            lines.addAll(List.of(block.group(1).split("\n")));
        }
        return lines;
    }

    private static void showsTheWholeFace(List<String> lines) {
        Set<String> shown = new TreeSet<>();
        for (String line : lines) {
            Matcher call = CALL.matcher(line);
            if (call.matches()) {
                shown.add(call.group(3));
                shown.add(call.group(4));
            }
        }
        for (Method method : KettleGuild.class.getDeclaredMethods()) {
            if (Modifier.isPublic(method.getModifiers())) {
                CHECK.holds("README.md shows a call of " + method.getName(), shown.contains(method.getName()));
            }
        }
        for (Field field : KettleGuild.class.getDeclaredFields()) {
            if (Modifier.isPublic(field.getModifiers())) {
                CHECK.holds("README.md shows the code " + field.getName(), shown.contains(field.getName()));
            }
        }
    }

    private static void answersAsItSays(List<String> lines) throws IOException, InterruptedException {
        Path out = Files.createTempDirectory("readme");
        String path = out + File.pathSeparator + System.getProperty("java.class.path");
        try {
            Path shown = Files.writeString(out.resolve("ReadmeUse.java"), program("ReadmeUse", lines));
            Path asked = Files.writeString(out.resolve("ReadmeAnswers.java"), program("ReadmeAnswers", asked(lines)));
            // The lines as they are shown see the class alone; those that look at answers need the tests' Check too.
            CHECK.holds("the lines of Java in README.md compile", ends("javac", "-d", out + "", "-cp", out + "", SOURCE, shown + ""));
            boolean isCompiled = ends("javac", "-d", out + "", "-cp", path, asked + "");
            CHECK.holds("they answer what README.md says", isCompiled && ends("java", "-cp", path, "ReadmeAnswers"));
        } finally {
            remove(out);
        }
    }

    private static String program(String name, List<String> lines) {
        String body = String.join("\n        ", lines);
        return "public final class " + name + " {\n    public static void main(String[] args) {\n        " + body + "\n    }\n}\n";
    }

    /** The same lines, in which each call is looked at. */
    private static List<String> asked(List<String> lines) {
        List<String> asked = new ArrayList<>();
        asked.add("Check.mustEnd(\"README.md\");");
        asked.add("Check check = new Check();");
        for (String line : lines) {
            Matcher call = CALL.matcher(line);
            String code = line.replaceAll("//.*", "");
            boolean isOneCall = call.matches() && code.indexOf("guild.") == code.lastIndexOf("guild.");
            CHECK.holds("an answer stands beside each call in \"" + line + "\"", isOneCall || !code.contains("guild."));
            asked.add(isOneCall ? asked(call) : line);
        }
        asked.add("check.holds(\"README.md makes 1 to 512 calls\", check.made() >= 1 && check.made() <= 512);");
        asked.add("check.end(\"README.md\");");
        return asked;
    }

    private static String asked(Matcher call) {
        String answer = call.group(4);
        String due = CODE.matcher(answer).matches() ? "KettleGuild." + answer : answer;
        String told = call.group(2).replace("\\", "\\\\").replace("\"", "\\\"");
        return call.group(1) + "check.due(\"" + told + "\", " + call.group(2) + ", " + due + ");";
    }

    private static boolean ends(String... command) throws IOException, InterruptedException {
        return new ProcessBuilder(command).inheritIO().start().waitFor() == 0;
    }

    private static void remove(Path folder) throws IOException {
        try (Stream<Path> files = Files.list(folder)) {
            for (Path file : files.toList()) {
                Files.delete(file);
            }
        }
        Files.delete(folder);
    }

    private static void tellsOfEachTest(String readme) throws IOException {
        Set<String> told = new TreeSet<>();
        Matcher row = Pattern.compile("(?m)^ *- `([A-Z]\\w*[a-z])`:").matcher(readme);
        while (row.find()) {
            told.add(row.group(1));
        }
        Set<String> there = new TreeSet<>();
        try (Stream<Path> files = Files.list(TESTS)) {
            for (Path file : files.toList()) {
                there.add(file.getFileName().toString().replace(".java", ""));
            }
        }
        CHECK.due("the tests of which README.md tells", told.toString(), there.toString());
    }

    private static void tellsOfThePromises(String readme) {
        for (Class<?> tests : SentencesTest.TESTS) {
            Matcher row = Pattern.compile("- `" + tests.getName() + "`: .*; promises? (\\d+( to \\d+)?)[.;]").matcher(readme);
            String told = row.find() ? row.group(1) : "none";
            CHECK.due("the promises of " + tests.getName(), told, promisesOf(tests));
        }
    }

    private static String promisesOf(Class<?> tests) {
        int least = Integer.MAX_VALUE;
        int most = 0;
        for (Method method : tests.getDeclaredMethods()) {
            for (Sentence sentence : method.getAnnotationsByType(Sentence.class)) {
                if (sentence.in().startsWith("Promise ")) {
                    int promise = Integer.parseInt(sentence.in().replaceAll("Promise (\\d+):.*", "$1"));
                    least = Math.min(least, promise);
                    most = Math.max(most, promise);
                }
            }
        }
        return least == most ? "" + least : least + " to " + most;
    }
}
