import java.io.IOException;
import java.lang.reflect.Constructor;
import java.lang.reflect.Field;
import java.lang.reflect.Method;
import java.lang.reflect.Modifier;
import java.nio.file.Files;
import java.nio.file.Path;
import java.util.ArrayList;
import java.util.List;
import java.util.Set;
import java.util.TreeSet;
import java.util.regex.Matcher;
import java.util.regex.Pattern;

/** The document's face, and what LANGUAGE.md rules out as far as it can be seen from words and members. */
public final class LanguageTest {
    private static final String[] FACE = {
        "set int int", "cousin", "sit int int", "stand int", "swap int int", "relate int int int", "fold int",
        "press int", "unfold", "write", "of int int", "ofSeat int int", "column int int", "sign int", "count int",
        "ifFolded int int", "bestFold", "bestSwap int", "fewestFolds", "put long", "wipe", "fault", "carryOut", "undo",
        "save int", "restore int",
    };
    private static final String[] CONSTANTS = {
        "NO_SUCH -1", "BAD_VALUE -2", "BAD_TEXT -3", "TOO_MANY -4", "NOT_POSSIBLE -5", "NONE -6", "SEATS 0", "NEAR 1",
        "FACE 2",
    };
    private static final String[] RULED_OUT = {
        "\\bthrow", "\\btry\\b", "\\bcatch\\b", "\\bsynchronized\\b", "\\bassert\\b", "->", "::", "@[A-Z]",
        "\\bpackage\\b", "\\bhashCode\\b", "\\bObject\\b", "\\bHashMap\\b", "Exact\\b", "\\bRandom\\b", "\\bThread\\b",
        "\\bSystem\\.(?!arraycopy)", "\\bwhile *\\(true", "for *\\(;",
    };

    public static void main(String[] args) throws IOException, ReflectiveOperationException {
        methodsOfTheFace();
        constantsOfTheFace();
        classesInside();
        source(Files.readString(Path.of("src/main/java/FoldedBench.java")));
        Due.end();
    }

    private static void methodsOfTheFace() {
        Set<String> names = new TreeSet<>();
        Set<String> found = new TreeSet<>();
        for (Method method : FoldedBench.class.getDeclaredMethods()) {
            if (Modifier.isPrivate(method.getModifiers()) || method.isSynthetic()) {
                continue;
            }
            StringBuilder text = new StringBuilder(method.getName());
            for (Class<?> type : method.getParameterTypes()) {
                text.append(' ').append(type.getName());
            }
            found.add(text.toString());
            names.add(method.getName());
            Due.holds(text + " is public, answers an int", Modifier.isPublic(method.getModifiers())
                && !Modifier.isStatic(method.getModifiers()) && method.getReturnType() == int.class);
        }
        Due.is("the methods", found.toString(), new TreeSet<>(List.of(FACE)).toString());
        for (Class<?> type : ownClasses()) {
            for (Method method : type.getDeclaredMethods()) {
                boolean isInside = type != FoldedBench.class || Modifier.isPrivate(method.getModifiers());
                Due.holds(type + " has its own " + method.getName(), !isInside || !names.contains(method.getName()));
            }
        }
        Constructor<?>[] constructors = FoldedBench.class.getDeclaredConstructors();
        Due.is("constructors", constructors.length, 1);
        Due.holds("it is public, and takes nothing", Modifier.isPublic(constructors[0].getModifiers())
            && constructors[0].getParameterCount() == 0);
        Due.holds("the class is final", Modifier.isFinal(FoldedBench.class.getModifiers()));
    }

    private static void constantsOfTheFace() throws ReflectiveOperationException {
        Set<String> found = new TreeSet<>();
        for (Field field : FoldedBench.class.getDeclaredFields()) {
            if (!Modifier.isPrivate(field.getModifiers())) {
                found.add(field.getName() + " " + field.getInt(null));
            }
        }
        Due.is("the constants", found.toString(), new TreeSet<>(List.of(CONSTANTS)).toString());
    }

    private static List<Class<?>> ownClasses() {
        List<Class<?>> all = new ArrayList<>(List.of(FoldedBench.class.getDeclaredClasses()));
        all.add(FoldedBench.class);
        return all;
    }

    private static void classesInside() {
        Due.holds("twelve classes at most", ownClasses().size() <= 12);
        for (Class<?> type : ownClasses()) {
            Due.holds(type + " is static", type == FoldedBench.class || Modifier.isStatic(type.getModifiers()));
            int fields = 0;
            for (Field field : type.getDeclaredFields()) {
                if (Modifier.isStatic(field.getModifiers())) {
                    Due.holds(field + " is final", Modifier.isFinal(field.getModifiers()));
                } else {
                    fields++;
                }
            }
            Due.holds(type + " has twenty fields at most", fields <= 20);
            for (Method method : type.getDeclaredMethods()) {
                Due.holds(method + " takes seven at most", method.getParameterCount() <= 7);
            }
        }
    }

    private static void source(String text) {
        String code = text.replaceAll("(?s)/\\*.*?\\*/", "").replaceAll("//[^\n]*", "");
        for (String form : RULED_OUT) {
            Matcher matcher = Pattern.compile(form).matcher(code);
            Due.holds("no " + form, !matcher.find());
        }
        Due.holds("signs 1 to 127 alone", text.chars().allMatch(c -> c > 0 && c < 128));
        int lines = 0;
        for (String line : code.split("\n")) {
            boolean opens = line.matches(" {4}( {4})?(public |private )?(static )?[A-Za-z\\[\\]]+ ?[A-Za-z]*\\(.*\\{");
            lines = opens ? 0 : lines + 1;
            Due.holds("sixty lines at most: " + line, lines <= 60);
        }
    }
}
