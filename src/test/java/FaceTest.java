import java.io.IOException;
import java.lang.reflect.Constructor;
import java.lang.reflect.Field;
import java.lang.reflect.Method;
import java.lang.reflect.Modifier;
import java.nio.charset.StandardCharsets;
import java.nio.file.Files;
import java.nio.file.Path;
import java.util.HashSet;
import java.util.Set;
import java.util.TreeSet;

/** The public face is the document's, and the source keeps out of what LANGUAGE.md leaves out. */
public final class FaceTest {
    private static final String[] FACE = {
        "int town(int,int,int,int)", "int ofPerson(int,int)", "int owe(int,int,int)", "int owes(int,int)",
        "int weight(int,int)", "int bell(int)", "int lighter(int)", "int dusks(int)", "int later(int,int)",
        "int dark()", "int ring(int)", "int walk(int,int,int,int,int,int)", "int free(int)", "int haste()",
        "int reading(int,int,int)", "int back(int)", "int debts(int,int)", "int kinds(int)", "int bells()",
        "long odds(int,int,int)", "int sheet(int,int,int)", "int lose(int)", "int put(int,int,int)",
        "long cell(int,int,int)", "int copy(int,int,int,int,int)", "int tell(int)", "int hail(int)",
        "int as(int,int)", "int trace()", "int fault()", "int many(int)",
    };
    private static final String[] CONSTANTS = {"UNKNOWN", "OUTSIDE", "STATE", "FULL", "NONE", "LOST"};
    private static final String[] FORBIDDEN = {
        "throw", "throws", "try", "catch", "finally", "synchronized", "assert", "import", "package", "Override",
        "equals", "hashCode", "toString", "protected", "volatile", "native", "var", "yield", "->", "::",
    };
    private static final int MOST_PARAMETERS = 7, MOST_CLASSES = 12, MOST_FIELDS = 20, MOST_LINES = 60;
    private static int wrong = 0;

    private static void holds(String what, boolean so) {
        if (so) return;
        wrong++;
        System.out.println(what);
    }

    private static String told(Method m) {
        StringBuilder s = new StringBuilder(m.getReturnType().getName()).append(' ').append(m.getName()).append('(');
        Class<?>[] types = m.getParameterTypes();
        for (int k = 0; k < types.length; k++) s.append(k == 0 ? "" : ",").append(types[k].getName());
        return s.append(')').toString();
    }

    private static void methods() {
        Set<String> open = new TreeSet<>();
        Set<String> openNames = new HashSet<>();
        for (Method m : DebtLamps.class.getDeclaredMethods()) {
            if (m.isSynthetic() || Modifier.isPrivate(m.getModifiers())) continue;
            holds(m + " is public and no more", m.getModifiers() == Modifier.PUBLIC);
            open.add(told(m));
            openNames.add(m.getName());
        }
        holds("the methods are those of the document: " + open, open.equals(new TreeSet<>(Set.of(FACE))));
        for (Method m : DebtLamps.class.getDeclaredMethods()) {
            boolean closed = Modifier.isPrivate(m.getModifiers());
            holds(m + " bears the name of a public one", !(closed && openNames.contains(m.getName())));
        }
        for (Class<?> inside : DebtLamps.class.getDeclaredClasses()) {
            holds(inside + " is not static", Modifier.isStatic(inside.getModifiers()));
            holds(inside + " is seen outside", !Modifier.isPublic(inside.getModifiers()));
            for (Method m : inside.getDeclaredMethods()) {
                holds(m + " bears the name of a public one", !openNames.contains(m.getName()));
            }
        }
    }

    private static void members() {
        Set<String> open = new TreeSet<>();
        for (Field f : DebtLamps.class.getDeclaredFields()) {
            if (!Modifier.isPrivate(f.getModifiers())) open.add(f.getName());
        }
        holds("the constants are those of the document: " + open, open.equals(new TreeSet<>(Set.of(CONSTANTS))));
        Constructor<?>[] made = DebtLamps.class.getDeclaredConstructors();
        holds("one constructor", made.length == 1 && made[0].getParameterCount() == 0);
        holds("a public constructor", made.length == 1 && Modifier.isPublic(made[0].getModifiers()));
        holds("a public final class", DebtLamps.class.getModifiers() == (Modifier.PUBLIC | Modifier.FINAL));
    }

    private static void constants() {
        holds("UNKNOWN", DebtLamps.UNKNOWN == -1);
        holds("OUTSIDE", DebtLamps.OUTSIDE == -2);
        holds("STATE", DebtLamps.STATE == -3);
        holds("FULL", DebtLamps.FULL == -4);
        holds("NONE", DebtLamps.NONE == -9);
        holds("LOST", DebtLamps.LOST == Long.MIN_VALUE);
    }

    private static void sizes() {
        Class<?>[] inside = DebtLamps.class.getDeclaredClasses();
        holds(inside.length + " classes inside", inside.length < MOST_CLASSES);
        sizesOf(DebtLamps.class);
        for (Class<?> one : inside) sizesOf(one);
    }

    private static void sizesOf(Class<?> one) {
        int fields = 0;
        for (Field f : one.getDeclaredFields()) {
            boolean isStatic = Modifier.isStatic(f.getModifiers());
            holds(f + " is static, but not final", !isStatic || Modifier.isFinal(f.getModifiers()));
            if (!isStatic) fields++;
        }
        holds(one + " has " + fields + " fields", fields <= MOST_FIELDS);
        for (Method m : one.getDeclaredMethods()) {
            holds(m + " takes too many parameters", m.getParameterCount() <= MOST_PARAMETERS);
        }
    }

    /** A method begins by a line that ends with { behind ) and ends by a } that stands as far in. */
    private static void methodsAreShort(String source) {
        String[] lines = source.split("\n");
        for (int k = 0; k < lines.length; k++) {
            if (!lines[k].matches(" +[A-Za-z].*\\) \\{")) continue;
            String end = lines[k].replaceAll("[^ ].*", "") + "}";
            int last = k;
            while (last < lines.length - 1 && !lines[last].equals(end)) last++;
            holds("too long: " + lines[k].trim(), last - k < MOST_LINES);
        }
    }

    private static String withoutComments(String source) {
        return source.replaceAll("(?s)/\\*.*?\\*/", " ").replaceAll("//[^\n]*", " ");
    }

    private static boolean hasWord(String code, String word) {
        if (!Character.isLetter(word.charAt(0))) return code.contains(word);
        return (" " + code + " ").matches("(?s).*[^A-Za-z0-9_]" + word + "[^A-Za-z0-9_].*");
    }

    private static void source() throws IOException {
        String written = Files.readString(Path.of("src/main/java/DebtLamps.java"), StandardCharsets.US_ASCII);
        methodsAreShort(written);
        String code = withoutComments(written);
        for (String word : FORBIDDEN) holds("the source says " + word, !hasWord(code, word));
        holds("a list of places in the machine's classes", !hasWord(code, "java"));
    }

    public static void main(String[] args) throws IOException {
        methods();
        members();
        constants();
        sizes();
        source();
        System.out.println(wrong == 0 ? "the face is as told" : wrong + " rules are broken");
        if (wrong != 0) System.exit(1);
    }
}
