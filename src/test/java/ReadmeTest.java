import java.lang.reflect.Method;
import java.lang.reflect.Modifier;
import java.nio.file.Files;
import java.nio.file.Path;
import java.util.HashMap;
import java.util.Map;
import java.util.regex.Matcher;
import java.util.regex.Pattern;

/** README.md: each call of its example answers what its comment begins with, and its table names every call. */
public final class ReadmeTest {
    private static final Pattern BLOCK = Pattern.compile("(?s)```java\n(.*?)```");
    private static final Pattern CALL = Pattern.compile("(?:(int|long) (\\w+) = )?smith\\.(\\w+)\\(([^()]*)\\); +// (-?\\w+).*");
    private static final String BEGIN = "DivideSmith smith = new DivideSmith();";

    private static int wrong = 0;
    private static int calls = 0;
    private static DivideSmith smith;
    private static final Map<String, Long> names = new HashMap<>();

    private static void fault(String words) {
        wrong++;
        System.out.println("README.md: " + words);
    }

    private static Method methodOf(String name) {
        for (Method m : DivideSmith.class.getDeclaredMethods()) {
            if (Modifier.isPublic(m.getModifiers()) && m.getName().equals(name)) return m;
        }
        return null;
    }

    private static Long valueOf(String word) {
        return word.matches("-?\\d+") ? Long.valueOf(word) : names.get(word);
    }

    private static Object[] argumentsOf(Method m, String text) {
        String[] words = text.isEmpty() ? new String[0] : text.split(", ");
        if (words.length != m.getParameterCount()) return null;
        Object[] values = new Object[words.length];
        for (int i = 0; i < words.length; i++) {
            Long value = valueOf(words[i]);
            if (value == null) return null;
            values[i] = m.getParameterTypes()[i] == long.class ? (Object) value : (Object) Math.toIntExact(value);
        }
        return values;
    }

    private static long due(String word) throws ReflectiveOperationException {
        return word.matches("[A-Z]+") ? DivideSmith.class.getField(word).getInt(null) : Long.parseLong(word);
    }

    private static void line(String text) throws ReflectiveOperationException {
        if (text.isEmpty()) return;
        if (text.equals(BEGIN)) {
            smith = new DivideSmith();
            names.clear();
            return;
        }
        Matcher call = CALL.matcher(text);
        Method m = call.matches() ? methodOf(call.group(3)) : null;
        Object[] values = m == null ? null : argumentsOf(m, call.group(4));
        if (values == null || smith == null) {
            fault("no call of the class with its answer: " + text);
            return;
        }
        if (call.group(1) != null && m.getReturnType() == long.class && call.group(1).equals("int")) {
            fault("a long does not fit: " + text);
        }
        long got = ((Number) m.invoke(smith, values)).longValue();
        if (got != due(call.group(5))) fault("answered " + got + ": " + text);
        if (call.group(2) != null && names.put(call.group(2), got) != null) fault("a name twice: " + text);
        calls++;
    }

    private static void table(String readme) {
        for (Method m : DivideSmith.class.getDeclaredMethods()) {
            if (!Modifier.isPublic(m.getModifiers())) continue;
            Matcher row = Pattern.compile("(?m)^\\|.*`" + m.getName() + "\\(([^()]*)\\)`.*\\|$").matcher(readme);
            if (!row.find()) {
                fault("the table does not name " + m.getName());
            } else if ((row.group(1).isEmpty() ? 0 : row.group(1).split(", ").length) != m.getParameterCount()) {
                fault("the table has other parameters for " + m.getName());
            }
        }
    }

    public static void main(String[] args) throws Exception {
        String readme = Files.readString(Path.of("README.md"));
        Matcher block = BLOCK.matcher(readme);
        while (block.find()) {
            for (String text : block.group(1).split("\n")) line(text);
        }
        if (calls == 0) fault("there is no example");
        table(readme);
        System.out.println(wrong == 0 ? calls + " calls of README.md answer as it says" : wrong + " faults in README.md");
        if (wrong != 0) System.exit(1);
    }
}
