import java.io.IOException;
import java.lang.reflect.Constructor;
import java.lang.reflect.Field;
import java.lang.reflect.Method;
import java.lang.reflect.Modifier;
import java.nio.file.Files;
import java.nio.file.Path;
import java.util.ArrayList;
import java.util.List;
import java.util.Set;
import java.util.TreeSet;
import java.util.regex.Pattern;

/** The document's face, and what LANGUAGE.md rules out as far as it can be seen from words and members. */
public final class LanguageTest {
    private static final String[] FACE = {
        "set int int", "cousin", "sit int int", "stand int", "swap int int", "relate int int int", "fold int",
        "press int", "unfold", "write", "of int int", "ofSeat int int", "column int int", "sign int", "count int",
        "ifFolded int int", "bestFold", "bestSwap int", "fewestFolds", "put long", "wipe", "fault", "carryOut", "undo",
        "save int", "restore int",
    };
    private static final String[] CONSTANTS = {
        "NO_SUCH -1", "BAD_VALUE -2", "BAD_TEXT -3", "TOO_MANY -4", "NOT_POSSIBLE -5", "NONE -6", "SEATS 0", "NEAR 1",
        "FACE 2",
    };
    private static final String[] RULED_OUT = {
        "\\bthrow", "\\btry\\b", "\\bcatch\\b", "\\bsynchronized\\b", "\\bassert\\b", "->", "::", "@[A-Z]",
        "\\bpackage\\b", "\\bhashCode\\b", "\\bObject\\b", "\\bHashMap\\b", "Exact\\b", "\\bRandom\\b", "\\bThread\\b",
        "\\bSystem\\.(?!arraycopy)", "\\bwhile *\\(true", "for *\\(;",
    };

    public static void main(String[] args) throws IOException {
        String source = Files.readString(Path.of("src/main/java/FoldedBench.java"));
        String code = source.replaceAll("(?s)/\\*.*?\\*/", "").replaceAll("//[^\n]*", "");
        Due.about("LANGUAGE.md");
        Due.test("1: the class is final, with one public constructor", LanguageTest::classAndConstructor);
        Due.test("1: the methods of the document, and no others", LanguageTest::methodsOfTheFace);
        Due.test("1: no private method bears the name of a public one", LanguageTest::namesInside);
        Due.test("1: the constants of the document, and no others", LanguageTest::constantsOfTheFace);
        Due.test("2, 5, 11: classes inside are static, and small; static fields are final",
            LanguageTest::classesInside);
        Due.test("2, 4, 6, 13: no words and forms that are ruled out", () -> formsOf(code));
        Due.test("3: signs 1 to 127 alone",
            () -> Due.holds("signs 1 to 127", source.chars().allMatch(c -> c > 0 && c < 128)));
        Due.test("11: methods of some sixty lines at most", () -> lengthsOf(code));
        Due.end();
    }

    private static void classAndConstructor() {
        Constructor<?>[] constructors = FoldedBench.class.getDeclaredConstructors();
        Due.is("constructors", constructors.length, 1);
        Due.holds("it is public, and takes nothing", Modifier.isPublic(constructors[0].getModifiers())
            && constructors[0].getParameterCount() == 0);
        Due.holds("the class is final", Modifier.isFinal(FoldedBench.class.getModifiers()));
        Due.holds("the class is public", Modifier.isPublic(FoldedBench.class.getModifiers()));
    }

    private static boolean isOfTheFace(Method method) {
        return !Modifier.isPrivate(method.getModifiers()) && !method.isSynthetic();
    }

    private static void methodsOfTheFace() {
        Set<String> found = new TreeSet<>();
        for (Method method : FoldedBench.class.getDeclaredMethods()) {
            if (!isOfTheFace(method)) {
                continue;
            }
            StringBuilder text = new StringBuilder(method.getName());
            for (Class<?> type : method.getParameterTypes()) {
                text.append(' ').append(type.getName());
            }
            found.add(text.toString());
            Due.holds(text + " is public, answers an int", Modifier.isPublic(method.getModifiers())
                && !Modifier.isStatic(method.getModifiers()) && method.getReturnType() == int.class);
        }
        Due.is("the methods", found.toString(), new TreeSet<>(List.of(FACE)).toString());
    }

    private static void namesInside() {
        Set<String> names = new TreeSet<>();
        for (String method : FACE) {
            names.add(method.split(" ")[0]);
        }
        for (Class<?> type : ownClasses()) {
            for (Method method : type.getDeclaredMethods()) {
                boolean isInside = type != FoldedBench.class || !isOfTheFace(method);
                Due.holds(type + " has its own " + method.getName(), !isInside || !names.contains(method.getName()));
            }
        }
    }

    private static void constantsOfTheFace() {
        Set<String> found = new TreeSet<>();
        for (Field field : FoldedBench.class.getDeclaredFields()) {
            if (!Modifier.isPrivate(field.getModifiers())) {
                found.add(field.getName() + " " + valueOf(field));
            }
        }
        Due.is("the constants", found.toString(), new TreeSet<>(List.of(CONSTANTS)).toString());
    }

    private static int valueOf(Field field) {
        try {
            return field.getInt(null);
        } catch (ReflectiveOperationException e) {
            throw new IllegalStateException(e);
        }
    }

    private static List<Class<?>> ownClasses() {
        List<Class<?>> all = new ArrayList<>(List.of(FoldedBench.class.getDeclaredClasses()));
        all.add(FoldedBench.class);
        return all;
    }

    private static void classesInside() {
        Due.holds("twelve classes at most", ownClasses().size() <= 12);
        for (Class<?> type : ownClasses()) {
            Due.holds(type + " is static", type == FoldedBench.class || Modifier.isStatic(type.getModifiers()));
            int fields = 0;
            for (Field field : type.getDeclaredFields()) {
                if (Modifier.isStatic(field.getModifiers())) {
                    Due.holds(field + " is final", Modifier.isFinal(field.getModifiers()));
                } else {
                    fields++;
                }
            }
            Due.holds(type + " has twenty fields at most", fields <= 20);
            for (Method method : type.getDeclaredMethods()) {
                Due.holds(method + " takes seven at most", method.getParameterCount() <= 7);
            }
        }
    }

    private static void formsOf(String code) {
        for (String form : RULED_OUT) {
            Due.holds("no " + form, !Pattern.compile(form).matcher(code).find());
        }
    }

    private static void lengthsOf(String code) {
        int lines = 0;
        for (String line : code.split("\n")) {
            boolean opens = line.matches(" {4}( {4})?(public |private )?(static )?[A-Za-z\\[\\]]+ ?[A-Za-z]*\\(.*\\{");
            lines = opens ? 0 : lines + 1;
            Due.holds("sixty lines at most: " + line, lines <= 60);
        }
    }
}
