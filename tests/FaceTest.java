import java.io.IOException;
import java.lang.reflect.Constructor;
import java.lang.reflect.Field;
import java.lang.reflect.Method;
import java.lang.reflect.Modifier;
import java.nio.file.Files;
import java.nio.file.Path;
import java.nio.file.Paths;
import java.util.Arrays;
import java.util.Set;
import java.util.TreeSet;
import java.util.regex.Matcher;
import java.util.regex.Pattern;

/**
 * The face of the class is that of the document: its members, with just these types and numbers, and no others, below
 * the headings that the document gives them.
 */
public final class FaceTest {
    private static final String[] FACE = {
        "int own(int,int)", "int owner(int)", "int kettle(int,int,int)", "int fill(int,int)", "int kettleOf(int,int)",
        "int set(int,int)", "int off(int)", "int heat(int,int)", "int lid(int,int)", "int appeal(int,int)",
        "int stoveOf(int,boolean)", "int minute(int)", "int whistling()", "int harmony()", "int harmonyAgain()",
        "int boilsIn(int)", "int boilsInAgain(int)", "int dryIn(int)", "int bestPitch()", "int memberOf(int,int)",
        "int ranked(int)", "int hottest(int)", "int append(int)", "int run()", "int tell(int)", "int tellStoves()",
        "int character(int)", "int reason(int,boolean)", "int account(int)", "int isBalanced()", "double meanWater()",
        "float whistleShare()", "int undo()", "int save()", "int restore()"};
    private static final String[] CONSTANTS = {"NONE -1011", "BAD -1012", "FULL -1013", "REFUSED -1014", "NOTHING -1015"};
    private static final Path DOCUMENT = Paths.get("../shared/DOC.md");
    private static final Path SOURCE = Paths.get("src/main/java/KettleGuild.java");
    private static final Check CHECK = new Check();

    public static void main(String[] args) throws IllegalAccessException, IOException {
        Class<?> face = KettleGuild.class;
        same("the class", face.getModifiers() + "", (Modifier.PUBLIC | Modifier.FINAL) + "");
        same("the methods", methods(face).toString(), new TreeSet<>(Arrays.asList(FACE)).toString());
        same("the constants", constants(face).toString(), new TreeSet<>(Arrays.asList(CONSTANTS)).toString());
        Constructor<?>[] constructors = face.getDeclaredConstructors();
        same("the constructors", constructors.length + "", "1");
        same("the constructor", constructors[0].toString(), "public KettleGuild()");
        if (Files.exists(DOCUMENT)) {
            Document document = Document.read(DOCUMENT);
            sameAsInTheDocument(document.section("The public face"));
            headings(document.section("Terms"), Files.readString(SOURCE));
        } else {
            System.out.println("FaceTest: there is no " + DOCUMENT + " to compare the face with");
        }
        CHECK.end("FaceTest");
    }

    private static void same(String what, String got, String want) {
        CHECK.due(what, got, want);
    }

    /** What this test asks for is what the document says. */
    private static void sameAsInTheDocument(String face) {
        Set<String> methods = new TreeSet<>();
        Matcher method = Pattern.compile("public (\\w+ \\w+)\\(([^)]*)\\);").matcher(face);
        while (method.find()) {
            methods.add(method.group(1) + "(" + method.group(2).replaceAll(" \\w+(, )?", "$1").replace(" ", "") + ")");
        }
        same("the methods in the document", methods.toString(), new TreeSet<>(Arrays.asList(FACE)).toString());
        Set<String> constants = new TreeSet<>();
        Matcher constant = Pattern.compile("public static final int (\\w+) = (-?\\d+);").matcher(face);
        while (constant.find()) {
            constants.add(constant.group(1) + " " + constant.group(2));
        }
        same("the constants in the document", constants.toString(), new TreeSet<>(Arrays.asList(CONSTANTS)).toString());
    }

    /** "Ahead of the calls .. the interface says: ---- .." */
    private static void headings(String terms, String source) {
        Matcher heading = Pattern.compile("Ahead of the calls ([^:]*) the interface says: (---- [^.]*)\\.").matcher(terms);
        int found = 0;
        while (heading.find()) {
            found++;
            String calls = heading.group(1).replaceAll("[`,]", "");
            same("the calls below \"" + heading.group(2) + "\"", callsBelow("    // " + heading.group(2) + "\n", source), calls);
        }
        CHECK.holds("the document says headings", found > 0);
    }

    private static String callsBelow(String heading, String source) {
        int start = source.indexOf(heading);
        if (start < 0) {
            return "there is no such heading";
        }
        String below = source.substring(start + heading.length());
        Matcher call = Pattern.compile("\n    public \\w+ (\\w+)\\(").matcher(below.replaceAll("(?s)\n    // ----.*", ""));
        StringBuilder calls = new StringBuilder();
        while (call.find()) {
            calls.append(calls.length() == 0 ? "" : " ").append(call.group(1));
        }
        return calls.toString();
    }

    private static Set<String> methods(Class<?> face) {
        Set<String> methods = new TreeSet<>();
        for (Method method : face.getDeclaredMethods()) {
            int modifiers = method.getModifiers();
            if (Modifier.isPrivate(modifiers)) {
                continue;
            }
            String text = method.toString().replace("public ", "").replace("KettleGuild.", "");
            methods.add(modifiers == Modifier.PUBLIC ? text : "not public alone: " + text);
        }
        return methods;
    }

    private static Set<String> constants(Class<?> face) throws IllegalAccessException {
        Set<String> constants = new TreeSet<>();
        for (Field field : face.getDeclaredFields()) {
            int modifiers = field.getModifiers();
            if (Modifier.isPrivate(modifiers)) {
                continue;
            }
            boolean isConstant = modifiers == (Modifier.PUBLIC | Modifier.STATIC | Modifier.FINAL) && field.getType() == int.class;
            constants.add(isConstant ? field.getName() + " " + field.getInt(null) : "no constant: " + field);
        }
        return constants;
    }
}
