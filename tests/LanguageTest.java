import java.io.IOException;
import java.lang.reflect.Field;
import java.lang.reflect.Method;
import java.lang.reflect.Modifier;
import java.nio.charset.StandardCharsets;
import java.nio.file.Files;
import java.nio.file.Paths;
import java.util.ArrayList;
import java.util.Arrays;
import java.util.HashSet;
import java.util.List;
import java.util.Set;
import java.util.regex.Matcher;
import java.util.regex.Pattern;

/** Those rules of LANGUAGE.md that the source or the compiled class shows. */
public final class LanguageTest {
    private static final String SOURCE = "src/main/java/KettleGuild.java";
    private static final String[] NOT_IN_CODE = {"(?m)^(?!\\s*(case|default)\\b).*->", "::", "\\bpackage\\b", "\\bprotected\\b",
        "\\bfinally\\b", "\\bsynchronized\\b", "\\bassert\\b", "\\bstatic\\s*\\{", "\\bObject\\b", "Exact\\b", "_VALUE\\b",
        "\\bNaN\\b", "\\bSystem\\.(?!arraycopy)", "\\bvolatile\\b", "\\bnative\\b", "\\bhashCode\\b", "\\bgetMessage\\b",
        "\\bcatch\\s*\\([^)]*\\b(Throwable|Exception|Error|NullPointer\\w+|ArrayIndex\\w+|StringIndex\\w+|ClassCast\\w+|NegativeArray\\w+|ArrayStore\\w+)\\b",
        "\\bthrow (?!new (IllegalState|IllegalArgument|IndexOutOfBounds|Arithmetic|UnsupportedOperation|NoSuchElement|Runtime)Exception\\()",
        "\\bArrays\\.(?!fill\\b|copyOf)", "\\b(Math|Integer|Long)\\.(?!max\\b|min\\b|abs\\b|bitCount\\b|compare\\b|floorDiv\\b|floorMod\\b|signum\\b|sum\\b)"};
    /** The types of constants, beside those of enums. */
    private static final Set<Class<?>> PLAIN = Set.of(int.class, long.class, boolean.class, char.class, String.class,
        int[].class, long[].class, char[].class, byte[].class);
    private static final Check CHECK = new Check();

    public static void main(String[] args) throws IOException {
        byte[] bytes = Files.readAllBytes(Paths.get(SOURCE));
        for (byte one : bytes) {
            if (one < 1) {
                CHECK.fault("a sign that is not 1 to 127");
            }
        }
        String code = withoutComments(new String(bytes, StandardCharsets.US_ASCII));
        noneOf(code);
        shortMethods(code);
        List<Class<?>> classes = new ArrayList<>(Arrays.asList(KettleGuild.class.getDeclaredClasses()));
        for (Class<?> inside : classes) {
            boolean isHidden = !Modifier.isPublic(inside.getModifiers()) && !Modifier.isProtected(inside.getModifiers());
            holds(isHidden, inside + " is private or package-visible");
        }
        classes.add(KettleGuild.class);
        holds(classes.size() <= 12, "at most twelve classes");
        for (Class<?> one : classes) {
            fields(one);
            methods(one);
        }
        CHECK.end("LanguageTest");
    }

    private static void holds(boolean isSo, String rule) {
        CHECK.holds(rule, isSo);
    }

    private static String withoutComments(String source) {
        return source.replaceAll("(?s)/\\*.*?\\*/", "").replaceAll("//[^\n]*", "");
    }

    private static void noneOf(String code) {
        for (String pattern : NOT_IN_CODE) {
            Matcher matcher = Pattern.compile(pattern).matcher(code);
            holds(!matcher.find(), "no " + pattern);
        }
        Matcher imports = Pattern.compile("import ([^;]*);").matcher(code);
        while (imports.find()) {
            holds(Set.of("java.util.Arrays", "java.util.ArrayList", "java.util.List").contains(imports.group(1)), "no import of " + imports.group(1));
        }
    }

    /** A method begins with a line that ends with ") {" and is not deeper than eight blanks. */
    private static void shortMethods(String code) {
        String[] lines = code.split("\n");
        for (int first = 0; first < lines.length; first++) {
            Matcher head = Pattern.compile("( {4}| {8})(public|private|static|[a-z]\\w*).*\\) \\{").matcher(lines[first]);
            if (head.matches()) {
                int last = first;
                while (last < lines.length && !lines[last].equals(head.group(1) + "}")) {
                    last++;
                }
                holds(last - first <= 60 || last == lines.length, "a short method: " + lines[first]);
            }
        }
    }

    private static void fields(Class<?> one) {
        int fields = 0;
        for (Field field : one.getDeclaredFields()) {
            if (!Modifier.isStatic(field.getModifiers())) {
                fields++;
            } else if (!field.isSynthetic() && !field.isEnumConstant()) {
                Class<?> type = field.getType();
                boolean isValues = type.isArray() && type.getComponentType().isEnum();
                holds(Modifier.isFinal(field.getModifiers()) && (isValues || PLAIN.contains(type)), "a constant: " + field);
            }
        }
        holds(fields <= 20, "at most twenty fields: " + one);
    }

    private static void methods(Class<?> one) {
        Set<String> names = new HashSet<>();
        for (Method method : KettleGuild.class.getDeclaredMethods()) {
            if (Modifier.isPublic(method.getModifiers())) {
                names.add(method.getName());
            }
        }
        for (Method method : one.getDeclaredMethods()) {
            holds(method.getParameterCount() <= 7, "at most seven parameters: " + method);
            holds(one.isRecord() || !Set.of("equals", "hashCode", "toString").contains(method.getName()), "no " + method);
            holds(!Modifier.isPrivate(method.getModifiers()) || !names.contains(method.getName()), "no name of the face: " + method);
        }
    }
}
