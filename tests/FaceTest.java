import java.lang.reflect.Constructor;
import java.lang.reflect.Field;
import java.lang.reflect.Method;
import java.lang.reflect.Modifier;
import java.util.Arrays;
import java.util.Set;
import java.util.TreeSet;

/** The face of the class is that of the document: its members, with just these types and numbers, and no others. */
public final class FaceTest {
    private static final String[] FACE = {
        "int own(int,int)", "int owner(int)", "int kettle(int,int,int)", "int fill(int,int)", "int kettleOf(int,int)",
        "int set(int,int)", "int off(int)", "int heat(int,int)", "int lid(int,int)", "int appeal(int,int)",
        "int stoveOf(int,boolean)", "int minute(int)", "int whistling()", "int harmony()", "int harmonyAgain()",
        "int boilsIn(int)", "int boilsInAgain(int)", "int dryIn(int)", "int bestPitch()", "int memberOf(int,int)",
        "int ranked(int)", "int hottest(int)", "int append(int)", "int run()", "int tell(int)", "int tellStoves()",
        "int character(int)", "int reason(int,boolean)", "int account(int)", "int isBalanced()", "double meanWater()",
        "float whistleShare()", "int undo()", "int save()", "int restore()"};
    private static final String[] CONSTANTS = {"NONE -1011", "BAD -1012", "FULL -1013", "REFUSED -1014", "NOTHING -1015"};
    private static final Check CHECK = new Check();

    public static void main(String[] args) throws IllegalAccessException {
        Class<?> face = KettleGuild.class;
        same("the class", face.getModifiers() + "", (Modifier.PUBLIC | Modifier.FINAL) + "");
        same("the methods", methods(face).toString(), new TreeSet<>(Arrays.asList(FACE)).toString());
        same("the constants", constants(face).toString(), new TreeSet<>(Arrays.asList(CONSTANTS)).toString());
        Constructor<?>[] constructors = face.getDeclaredConstructors();
        same("the constructors", constructors.length + "", "1");
        same("the constructor", constructors[0].toString(), "public KettleGuild()");
        CHECK.end("FaceTest");
    }

    private static void same(String what, String got, String want) {
        CHECK.due(what, got, want);
    }

    private static Set<String> methods(Class<?> face) {
        Set<String> methods = new TreeSet<>();
        for (Method method : face.getDeclaredMethods()) {
            int modifiers = method.getModifiers();
            if (Modifier.isPrivate(modifiers)) {
                continue;
            }
            String text = method.toString().replace("public ", "").replace("KettleGuild.", "");
            methods.add(modifiers == Modifier.PUBLIC ? text : "not public alone: " + text);
        }
        return methods;
    }

    private static Set<String> constants(Class<?> face) throws IllegalAccessException {
        Set<String> constants = new TreeSet<>();
        for (Field field : face.getDeclaredFields()) {
            int modifiers = field.getModifiers();
            if (Modifier.isPrivate(modifiers)) {
                continue;
            }
            boolean isConstant = modifiers == (Modifier.PUBLIC | Modifier.STATIC | Modifier.FINAL) && field.getType() == int.class;
            constants.add(isConstant ? field.getName() + " " + field.getInt(null) : "no constant: " + field);
        }
        return constants;
    }
}
