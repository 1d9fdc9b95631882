import java.lang.reflect.Constructor;
import java.lang.reflect.Field;
import java.lang.reflect.Method;
import java.lang.reflect.Modifier;
import java.nio.file.Files;
import java.nio.file.Path;
import java.util.Arrays;
import java.util.List;
import java.util.Set;
import java.util.TreeSet;
import java.util.regex.Matcher;
import java.util.regex.Pattern;

/** The face of the document, and the rules of LANGUAGE.md that can be read off the class and its text. */
public final class LanguageTest {
    private static final String SOURCE = "src/main/java/DivideSmith.java";
    private static int wrong = 0;

    private static final String[] FACE = {
        "int form(int)", "int step(int,int,int,long)", "int make(int,int,int,long)", "int drop()", "int steps(int)",
        "long told(int,int,int)", "int width(int)", "int cost(int)", "int price(int,int)", "long run(int,long)",
        "long end(int,long,int)", "int fails(int,int,int,long)", "long plain(int,int,int,long,long)",
        "long proof(int,long,int)", "int check(int,long,int,long,int)", "long inverse(int,long)", "long tell(int,long)",
        "int least(int,int,long,int)", "int count(int)", "int undo()", "int hook(int,int,int,int)", "int held(int)",
        "int use(int,int,int,int)",
    };
    private static final String[] CONSTANTS = {
        "BAD", "FULL", "NONE", "CAST", "NOTHING", "PLACE", "SIZE", "THROWN", "NOUGHT",
    };

    private static void rule(boolean holds, String words) {
        if (!holds) {
            wrong++;
            System.out.println(words);
        }
    }

    private static String told(Method m) {
        StringBuilder sb = new StringBuilder(m.getReturnType().getSimpleName() + " " + m.getName() + "(");
        for (int i = 0; i < m.getParameterCount(); i++) {
            sb.append(i == 0 ? "" : ",").append(m.getParameterTypes()[i].getSimpleName());
        }
        return sb.append(")").toString();
    }

    private static void face() {
        Class<?> c = DivideSmith.class;
        rule(Modifier.isPublic(c.getModifiers()) && Modifier.isFinal(c.getModifiers()), "rule 1: public and final");
        Set<String> open = new TreeSet<>();
        Set<String> names = new TreeSet<>();
        for (Method m : c.getDeclaredMethods()) {
            if (!Modifier.isPrivate(m.getModifiers())) {
                open.add(told(m));
                names.add(m.getName());
                rule(Modifier.isPublic(m.getModifiers()) && !Modifier.isStatic(m.getModifiers()), "rule 1: " + m);
            }
        }
        rule(open.equals(new TreeSet<>(Arrays.asList(FACE))), "rule 1: the methods of the face, not " + open);
        Set<String> fields = new TreeSet<>();
        for (Field f : c.getDeclaredFields()) {
            if (!Modifier.isPrivate(f.getModifiers())) fields.add(f.getName());
        }
        rule(fields.equals(new TreeSet<>(Arrays.asList(CONSTANTS))), "rule 1: the constants of the face, not " + fields);
        Constructor<?>[] made = c.getDeclaredConstructors();
        rule(made.length == 1 && made[0].getParameterCount() == 0, "rule 1: one constructor");
        privateNames(c, names);
        for (Class<?> inside : c.getDeclaredClasses()) privateNames(inside, names);
    }

    private static void privateNames(Class<?> c, Set<String> open) {
        for (Method m : c.getDeclaredMethods()) {
            boolean own = c != DivideSmith.class || Modifier.isPrivate(m.getModifiers());
            rule(!own || !open.contains(m.getName()), "rule 1: " + m + " bears the name of a public one");
            rule(m.getParameterCount() <= 7, "rule 11: parameters of " + m);
        }
        for (Constructor<?> m : c.getDeclaredConstructors()) {
            rule(m.getParameterCount() <= 7, "rule 11: parameters of " + m);
        }
    }

    private static void classesAndFields() {
        Class<?>[] inside = DivideSmith.class.getDeclaredClasses();
        rule(inside.length + 1 <= 12, "rule 11: at most some twelve classes");
        fields(DivideSmith.class);
        for (Class<?> c : inside) {
            rule(Modifier.isStatic(c.getModifiers()) && !Modifier.isPublic(c.getModifiers()), "rule 2: " + c);
            fields(c);
        }
    }

    private static void fields(Class<?> c) {
        int own = 0;
        for (Field f : c.getDeclaredFields()) {
            if (Modifier.isStatic(f.getModifiers())) {
                rule(Modifier.isFinal(f.getModifiers()), "rule 5: " + f);
            } else {
                own++;
            }
        }
        rule(own <= 20, "rule 11: fields of " + c);
    }

    private static String codeOf(String text) {
        return text.replaceAll("(?s)/\\*.*?\\*/", "").replaceAll("//[^\n]*", "");
    }

    private static void words(String code) {
        List<String> refused = List.of("throw", "throws", "try", "catch", "finally", "synchronized", "assert", "import",
            "package", "double", "float", "var", "yield", "protected", "Object", "equals", "hashCode", "toString",
            "volatile", "native", "transient");
        for (String word : refused) {
            rule(!Pattern.compile("\\b" + word + "\\b").matcher(code).find(), "rules 1 to 6: the word " + word);
        }
        rule(!code.contains("->") && !code.contains("::"), "rule 2: no lambda, no method reference");
        rule(!Pattern.compile("static\\s*\\{").matcher(code).find(), "rule 5: no static initialiser");
        Matcher calls = Pattern.compile("\\b(System|Math|Long|Integer|Arrays)\\.(\\w+)").matcher(code);
        Set<String> listed = Set.of("System.arraycopy", "Long.bitCount", "Long.MIN_VALUE");
        while (calls.find()) rule(listed.contains(calls.group()), "rule 4: " + calls.group());
    }

    /** A method begins with a line that ends in ") {" at one of two depths, and ends at its depth's brace. */
    private static void lengths(String[] lines) {
        int start = -1;
        String close = "";
        for (int i = 0; i < lines.length; i++) {
            Matcher head = Pattern.compile("^( {4}| {8})[a-zA-Z].*\\) \\{$").matcher(lines[i]);
            if (start < 0 && head.find()) {
                start = i;
                close = head.group(1) + "}";
            } else if (start >= 0 && lines[i].equals(close)) {
                rule(i - start <= 60, "rule 11: long method at line " + (start + 1));
                start = -1;
            }
        }
    }

    private static final int[] INTS = {
        Integer.MIN_VALUE, -1, 0, 1, 2, 5, 6, 8, 9, 12, 13, 59, 60, 64, 100, 101, Integer.MAX_VALUE,
    };
    private static final long[] LONGS = {Long.MIN_VALUE, -1, 0, 1, 7, 128, 256, 1L << 32, Long.MAX_VALUE};

    private static DivideSmith filled(int forms) {
        DivideSmith s = new DivideSmith();
        for (int f = 0; f < forms; f++) {
            s.form(f % 2 == 0 ? 8 : 64);
            for (int k = 0; k < f % 13; k++) s.step(f, (f + k) % 13, k, k % 8);
        }
        for (int h = 0; h < 8; h++) s.hook(h, h % 6, 12, 11);
        return s;
    }

    /** Every call, with all its arguments at their ends: none may throw, whatever came before. */
    private static void neverThrows() {
        for (Method m : DivideSmith.class.getDeclaredMethods()) {
            if (!Modifier.isPublic(m.getModifiers())) continue;
            for (int forms : new int[] {0, 13, 60}) {
                callAll(m, filled(forms), new Object[m.getParameterCount()], 0);
            }
        }
    }

    private static void callAll(Method m, DivideSmith s, Object[] values, int at) {
        if (at == values.length) {
            try {
                m.invoke(s, values);
            } catch (ReflectiveOperationException e) {
                rule(false, "rule 7: " + told(m) + " of " + Arrays.toString(values) + ": " + e.getCause());
            }
            return;
        }
        boolean wide = m.getParameterTypes()[at] == long.class;
        for (int i = 0; i < (wide ? LONGS.length : INTS.length); i++) {
            values[at] = wide ? (Object) LONGS[i] : (Object) INTS[i];
            callAll(m, s, values, at + 1);
        }
    }

    public static void main(String[] args) throws Exception {
        String text = Files.readString(Path.of(SOURCE));
        face();
        classesAndFields();
        words(codeOf(text));
        lengths(text.split("\n"));
        neverThrows();
        System.out.println(wrong == 0 ? "the language is kept" : wrong + " rules are not kept");
        if (wrong != 0) System.exit(1);
    }
}
