import java.io.IOException;
import java.lang.reflect.InvocationTargetException;
import java.lang.reflect.Method;
import java.nio.file.Files;
import java.nio.file.Path;
import java.nio.file.Paths;
import java.util.ArrayList;
import java.util.Comparator;
import java.util.List;

/** Runs the tests that stand for sentences of the document, and tells which sentences have none. */
public final class SentencesTest {
    private static final Path DOCUMENT = Paths.get("../shared/DOC.md");
    static final Class<?>[] TESTS = {KettleSentences.class, StoveSentences.class, MinuteSentences.class, OrderSentences.class,
        TextSentences.class, ReasonSentences.class, StateSentences.class};

    private SentencesTest() {
    }

    public static void main(String[] args) throws IOException {
        Check.mustEnd("SentencesTest");
        Check check = new Check();
        for (Method test : tests()) {
            run(check, test);
        }
        if (Files.exists(DOCUMENT)) {
            compare(check, Document.read(DOCUMENT));
        } else {
            System.out.println("SentencesTest: there is no " + DOCUMENT + " to look for sentences without a test");
        }
        check.end("SentencesTest");
    }

    private static List<Method> tests() {
        List<Method> tests = new ArrayList<>();
        for (Class<?> one : TESTS) {
            for (Method method : one.getDeclaredMethods()) {
                if (method.getAnnotationsByType(Sentence.class).length > 0) {
                    tests.add(method);
                }
            }
        }
        tests.sort(Comparator.comparing(Method::getName));
        return tests;
    }

    private static void run(Check check, Method test) {
        Sentence first = test.getAnnotationsByType(Sentence.class)[0];
        check.about(nameOf(test) + " (" + first.in() + ", \"" + first.says() + "\")");
        try {
            test.invoke(null, check);
        } catch (InvocationTargetException thrown) {
            check.fault("threw " + thrown.getCause());
        } catch (IllegalAccessException thrown) {
            check.fault("cannot be run: " + thrown);
        }
        check.holds("it looks at an answer", check.made() > 0);
    }

    private static String nameOf(Method test) {
        return test.getDeclaringClass().getName() + "." + test.getName();
    }

    private static void compare(Check check, Document document) {
        for (Method test : tests()) {
            for (Sentence sentence : test.getAnnotationsByType(Sentence.class)) {
                check.about(nameOf(test) + " (" + sentence.in() + ", \"" + sentence.says() + "\")");
                check.holds("the document says that", document.test(sentence.in(), sentence.says()));
            }
        }
        for (String sentence : document.untested()) {
            check.about("the document");
            check.fault("no test stands for " + sentence);
        }
    }
}
