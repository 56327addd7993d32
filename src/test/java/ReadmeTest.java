import java.io.IOException;
import java.lang.reflect.Method;
import java.lang.reflect.Modifier;
import java.nio.file.Files;
import java.nio.file.Path;
import java.util.regex.Matcher;
import java.util.regex.Pattern;

/** What README.md says of the calls: each one of its example is made, in its order, and answers what stands there. */
public final class ReadmeTest {
    private static final Pattern LINE = Pattern.compile("bench\\.(\\w+)\\((.*?)\\); +// (-?\\w+).*");

    public static void main(String[] args) throws IOException {
        String page = Files.readString(Path.of("README.md"));
        Due.about("README.md");
        Due.test("each call of the example answers what stands behind it", () -> callAll(page));
        Due.test("each call of the class is named with its arguments", () -> namesAll(page));
        Due.test("each test class is named", () -> namesTests(page));
        Due.end();
    }

    private static void callAll(String page) {
        FoldedBench bench = new FoldedBench();
        int start = page.indexOf("```java") + 7;
        int calls = 0;
        for (String line : page.substring(start, page.indexOf("```", start)).split("\n")) {
            Matcher matcher = LINE.matcher(line);
            if (matcher.matches()) {
                Due.is(line, call(bench, matcher.group(1), matcher.group(2)), valueOf(matcher.group(3)));
                calls++;
            } else {
                Due.holds("it is no call: " + line, line.isEmpty() || line.startsWith("FoldedBench bench = new "));
            }
        }
        Due.holds("there are calls", calls > 0);
    }

    private static int call(FoldedBench bench, String name, String arguments) {
        String[] texts = arguments.isEmpty() ? new String[0] : arguments.split(", ");
        for (Method method : FoldedBench.class.getDeclaredMethods()) {
            if (method.getName().equals(name)) {
                try {
                    return (Integer) method.invoke(bench, numbers(texts, method.getParameterTypes()));
                } catch (ReflectiveOperationException e) {
                    throw new IllegalStateException(e);
                }
            }
        }
        throw new IllegalStateException("no " + name);
    }

    private static Object[] numbers(String[] texts, Class<?>[] types) {
        Object[] numbers = new Object[texts.length];
        for (int i = 0; i < texts.length; i++) {
            if (types[i] == long.class) {
                numbers[i] = Long.decode(texts[i].replace("L", ""));
            } else {
                numbers[i] = Integer.decode(texts[i]);
            }
        }
        return numbers;
    }

    private static int valueOf(String answer) {
        try {
            return Character.isLetter(answer.charAt(0)) ? FoldedBench.class.getField(answer).getInt(null)
                : Integer.parseInt(answer);
        } catch (ReflectiveOperationException e) {
            throw new IllegalStateException(e);
        }
    }

    private static void namesAll(String page) {
        for (Method method : FoldedBench.class.getDeclaredMethods()) {
            if (Modifier.isPublic(method.getModifiers())) {
                String arguments = "[a-z]+, ".repeat(method.getParameterCount()).replaceAll(", $", "");
                Pattern named = Pattern.compile("`" + method.getName() + "\\(" + arguments + "\\)`");
                Due.holds(method.getName(), named.matcher(page).find());
            }
        }
    }

    /** Those of the promises and of the terms stand there as from one to another one. */
    private static void namesTests(String page) {
        String[] names = Path.of("src/test/java").toFile().list();
        for (String file : names == null ? new String[0] : names) {
            String name = file.replace(".java", "");
            Due.holds(name, name.matches("(P\\d\\d|Terms).*") || page.contains("`" + name + "`"));
        }
    }
}
