import java.io.IOException;
import java.nio.file.Files;
import java.nio.file.Path;
import java.util.ArrayList;
import java.util.Arrays;
import java.util.LinkedHashMap;
import java.util.List;
import java.util.Map;
import java.util.regex.Matcher;
import java.util.regex.Pattern;

/** The document's sections, to find sentences in them, and those for which no test stands. Has no main, so .ci/run does not run it. */
final class Document {
    /** What has nothing to test: the names of the terms, what only orders the interface, and what only names a call. */
    private static final Pattern WITHOUT_CASE = Pattern.compile("(Members and pitches|Kettles|Stoves|Minutes|Harmonies|Appeals|Texts|Reasons"
        + "|Changes|Codes|In doubt)\\.|Ahead of the calls .*|`(int|double|float) \\w+\\(.*?\\)`: .*");

    private final Map<String, String> sections = new LinkedHashMap<>();
    private final Map<String, boolean[]> tested = new LinkedHashMap<>();

    static Document read(Path path) throws IOException {
        Document document = new Document();
        for (String section : Files.readString(path).split("\n## ")) {
            int end = section.indexOf('\n');
            document.sections.put(section.substring(0, end).trim(), oneLine(section.substring(end)));
        }
        document.sections.forEach((heading, text) -> document.tested.put(heading, new boolean[text.length()]));
        return document;
    }

    private static String oneLine(String text) {
        return text.replaceAll("\\s+", " ").trim();
    }

    /** What stands below a heading, in one line. */
    String section(String heading) {
        return sections.getOrDefault(heading, "");
    }

    /** Takes down that a test stands for these words; answers whether they stand below the heading. */
    boolean test(String heading, String words) {
        String text = sections.getOrDefault(heading, "");
        int start = text.indexOf(words);
        if (start < 0) {
            return false;
        }
        while (start >= 0) {
            Arrays.fill(tested.get(heading), start, start + words.length(), true);
            start = text.indexOf(words, start + 1);
        }
        return true;
    }

    /** Each sentence, or part of one ahead of ";", of which no word is tested, and each number that is not. */
    List<String> untested() {
        List<String> untested = new ArrayList<>();
        for (String heading : sections.keySet()) {
            if (heading.equals("Terms") || heading.startsWith("Promise")) {
                addUntested(untested, heading, "[^.;]+[.;]?");
                addUntested(untested, heading, "(?<![\\w-])-?\\d+(?!\\w)");
            }
        }
        return untested;
    }

    private void addUntested(List<String> untested, String heading, String pattern) {
        String text = sections.get(heading);
        Matcher matcher = Pattern.compile(pattern).matcher(text);
        while (matcher.find()) {
            boolean isTested = WITHOUT_CASE.matcher(matcher.group().trim()).matches();
            for (int index = matcher.start(); index < matcher.end(); index++) {
                isTested |= tested.get(heading)[index] && text.charAt(index) != ' ';
            }
            if (!isTested) {
                int start = Math.max(0, matcher.start() - 20);
                untested.add(heading + ": \"" + matcher.group().trim() + "\" in \"" + text.substring(start, Math.min(text.length(), matcher.end() + 20)) + "\"");
            }
        }
    }
}
