import java.lang.reflect.Constructor;
import java.lang.reflect.Field;
import java.lang.reflect.Method;
import java.lang.reflect.Modifier;
import java.nio.file.Files;
import java.nio.file.Path;
import java.util.Arrays;
import java.util.TreeSet;
import java.util.regex.Matcher;
import java.util.regex.Pattern;

/** The face of the class and the rules of LANGUAGE.md that can be read off it; run from the project's folder. */
public final class LanguageTest {
    static final String SOURCE = "src/main/java/ThingRules.java";
    static final Path DOCUMENT = Path.of("../shared/DOC.md");
    static final int METHODS = 16;
    static final Pattern FACE = Pattern.compile("(?s)\n## The public face\\s+```java\n(.*?)```");
    static final Pattern METHOD = Pattern.compile("public (int|long) (\\w+)\\(([^)]*)\\)(?: throws ([^;]*))?;");
    static final Pattern CONSTANTS = Pattern.compile("public static final int ([^;]*);");
    static final String[] NOT_ALLOWED = {
        "\\bimport\\b", "\\bpackage\\b", "\\btry\\b", "\\bcatch\\b", "\\bfinally\\b", "\\bsynchronized\\b", "\\bassert\\b", "->", "::",
        "\\bSystem\\.(?!arraycopy)", "\\bThread\\b", "\\bRandom\\b", "\\bequals\\b", "\\bhashCode\\b", "\\btoString\\b", "Exact\\b",
        "\\bstatic\\s*\\{"
    };

    static int wrong = 0;

    static void due(String what, Object got, Object want) {
        if (!got.equals(want)) {
            wrong++;
            System.out.println(what + ": " + got + ", due is " + want);
        }
    }

    static String told(Method m) {
        StringBuilder text = new StringBuilder(m.getReturnType().getSimpleName());
        text.append(' ').append(m.getName()).append('(');
        Class<?>[] taken = m.getParameterTypes();
        for (int k = 0; k < taken.length; k++) {
            text.append(k == 0 ? "" : ", ").append(taken[k].getSimpleName());
        }
        text.append(')');
        for (Class<?> e : m.getExceptionTypes()) {
            text.append(' ').append(e.getSimpleName());
        }
        return text.toString();
    }

    /** What the document writes between the marks of its face. */
    static String face() throws Exception {
        Matcher face = FACE.matcher(Files.readString(DOCUMENT));
        return face.find() ? face.group(1) : "";
    }

    static TreeSet<String> methodsOf(String face) {
        TreeSet<String> all = new TreeSet<>();
        Matcher m = METHOD.matcher(face);
        while (m.find()) {
            String taken = m.group(3).replaceAll(" \\w+(,|$)", "$1");
            String thrown = m.group(4) == null ? "" : " " + m.group(4).replace(",", "");
            all.add(m.group(1) + " " + m.group(2) + "(" + taken + ")" + thrown);
        }
        return all;
    }

    static TreeSet<String> constantsOf(String face) {
        Matcher m = CONSTANTS.matcher(face);
        return new TreeSet<>(Arrays.asList(m.find() ? m.group(1).split(", ") : new String[0]));
    }

    static void methods() throws Exception {
        TreeSet<String> open = new TreeSet<>();
        TreeSet<String> openNames = new TreeSet<>();
        for (Method m : ThingRules.class.getDeclaredMethods()) {
            if (!Modifier.isPrivate(m.getModifiers())) {
                open.add(told(m));
                openNames.add(m.getName());
                due(m + " is public", Modifier.isPublic(m.getModifiers()) && !Modifier.isStatic(m.getModifiers()), true);
            }
        }
        due("the face", open, methodsOf(face()));
        due("methods of the face", open.size(), METHODS);
        for (Method m : ThingRules.class.getDeclaredMethods()) {
            if (Modifier.isPrivate(m.getModifiers())) {
                due("a private method bears the name " + m.getName(), openNames.contains(m.getName()), false);
            }
            due("parameters of " + m.getName() + " are seven at most", m.getParameterCount() <= 7, true);
        }
    }

    static void fields() throws Exception {
        TreeSet<String> open = new TreeSet<>();
        for (Field f : ThingRules.class.getDeclaredFields()) {
            if (!Modifier.isPrivate(f.getModifiers())) {
                open.add(f.getName() + " = " + f.getInt(null));
                due(f.getName() + " is public", Modifier.isPublic(f.getModifiers()), true);
            }
            if (Modifier.isStatic(f.getModifiers())) {
                due(f.getName() + " is final", Modifier.isFinal(f.getModifiers()), true);
            }
        }
        due("the constants", open, constantsOf(face()));
    }

    static void classes() {
        due("the class is public and final", ThingRules.class.getModifiers(), Modifier.PUBLIC | Modifier.FINAL);
        due("its package", ThingRules.class.getPackageName(), "");
        Constructor<?>[] made = ThingRules.class.getDeclaredConstructors();
        due("its constructors", made.length, 1);
        due("its constructor's parameters", made[0].getParameterCount(), 0);
        due("its constructor is public", Modifier.isPublic(made[0].getModifiers()), true);
        for (Class<?> c : ThingRules.class.getDeclaredClasses()) {
            due(c.getName() + " is static", Modifier.isStatic(c.getModifiers()), true);
            due(c.getName() + " is not public", Modifier.isPublic(c.getModifiers()) || Modifier.isProtected(c.getModifiers()), false);
        }
    }

    static void words() throws Exception {
        String text = Files.readString(Path.of(SOURCE)).replaceAll("(?s)/\\*.*?\\*/", "").replaceAll("//[^\n]*", "");
        for (String word : NOT_ALLOWED) {
            due("the source has " + word, Pattern.compile(word).matcher(text).find(), false);
        }
        Matcher thrown = Pattern.compile("\\bthrow\\b[^;]*;").matcher(text);
        TreeSet<String> all = new TreeSet<>();
        while (thrown.find()) {
            all.add(thrown.group());
        }
        due("what is thrown", all.toString(), "[throw new ArrayIndexOutOfBoundsException();, throw new ClassCastException();]");
    }

    /** Objects and arrays, and fields and elements, below one object of the class. */
    static int[] held(Object o) throws Exception {
        int[] sum = {1, 0};
        for (Field f : o.getClass().getDeclaredFields()) {
            if (Modifier.isStatic(f.getModifiers())) {
                continue;
            }
            f.setAccessible(true);
            Object part = f.get(o);
            sum[1]++;
            if (f.getType().isArray()) {
                sum[0]++;
                sum[1] += java.lang.reflect.Array.getLength(part);
            } else if (!f.getType().isPrimitive()) {
                int[] below = held(part);
                sum[0] += below[0];
                sum[1] += below[1];
            }
        }
        return sum;
    }

    /** An object for every call of the longest run has to find room. */
    static void room() throws Exception {
        int[] sum = held(new ThingRules());
        due("objects of 512 objects find room", 512 * sum[0] < 600_000, true);
        due("elements of 512 objects find room", 512 * sum[1] < 7_300_000, true);
    }

    public static void main(String[] args) throws Exception {
        methods();
        fields();
        classes();
        words();
        room();
        System.out.println(wrong == 0 ? "all is as due" : wrong + " are not as due");
        if (wrong != 0) {
            System.exit(1);
        }
    }
}
