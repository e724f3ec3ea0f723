import java.io.IOException;
import java.nio.file.Files;
import java.nio.file.Path;
import java.util.regex.Matcher;
import java.util.regex.Pattern;

/** README.md's examples: each call there is made, on one object, and has the answer that stands behind it. */
public final class ReadmeTest {
    private static final Check CHECK = new Check("ReadmeTest");
    private static final Pattern CALL = Pattern.compile("x\\.(\\w+)\\((.*?)\\);(?: +// (.*))?");

    public static void main(String[] args) throws IOException {
        ParityClauses x = null;
        int calls = 0;
        for (String line : Files.readAllLines(Path.of("README.md"))) {
            Matcher call = CALL.matcher(line);
            if (line.startsWith("ParityClauses x = new ParityClauses(")) {
                x = new ParityClauses((int) number(line.replaceAll("\\D", "")));
            } else if (call.matches() && x != null) {
                calls++;
                CHECK.due(line, Check.answer(x, call.group(1), arguments(call.group(1), call.group(2))), due(call.group(3)));
            }
        }
        CHECK.due("calls in README.md's examples", calls, 32);
        CHECK.end();
    }

    /** The answer is what stands before the first comma, colon, or other word; a call without one answers nothing. */
    private static String due(String told) {
        if (told == null) {
            return "void";
        }
        long value = number(told.split("[ :,]")[0]);
        return Long.toString(told.contains("and bit 62") ? value | Check.RIGHT : value);
    }

    private static long number(String word) {
        if (word.equals("NONE")) {
            return ParityClauses.NONE;
        }
        String figures = word.replace("L", "");
        return figures.startsWith("0b") ? Long.parseLong(figures.substring(2), 2) : Long.decode(figures);
    }

    private static Object[] arguments(String name, String list) {
        if (list.isEmpty()) {
            return new Object[0];
        }
        Class<?>[] types = typesOf(name);
        String[] words = list.split(", ");
        Object[] values = new Object[words.length];
        for (int i = 0; i < words.length; i++) {
            if (types[i] == boolean.class) {
                values[i] = Boolean.valueOf(words[i]);
            } else {
                long value = number(words[i]);
                values[i] = types[i] == int.class ? (Object) (int) value : (Object) value;
            }
        }
        return values;
    }

    private static Class<?>[] typesOf(String name) {
        for (java.lang.reflect.Method method : ParityClauses.class.getMethods()) {
            if (method.getName().equals(name)) {
                return method.getParameterTypes();
            }
        }
        throw new AssertionError("README.md calls " + name);
    }
}
