import java.io.IOException;
import java.lang.reflect.Constructor;
import java.lang.reflect.Field;
import java.lang.reflect.Method;
import java.lang.reflect.Modifier;
import java.nio.file.Files;
import java.nio.file.Path;
import java.util.Arrays;
import java.util.List;
import java.util.Set;
import java.util.TreeSet;

/** The public face of the document, and those rules of the language that can be seen from outside. */
public final class FaceTest {
    private static final String I = "IndexOutOfBoundsException";
    private static final String A = "IllegalArgumentException";
    private static final String S = "IllegalStateException";
    private static final String N = "NoSuchElementException";
    private static final String U = "UnsupportedOperationException";

    /** Each method: what it answers, its name, its arguments (i int, b boolean), what it may throw. */
    private static final String[] FACE = {
        "int feed iiiii", "boolean end i", "int bank - " + A + " " + U, "int law - " + A, "int fault -",
        "int vault ii " + I + " " + N, "int left ii " + I, "int code iii " + I, "int wheel iiib " + I,
        "int click iii " + I + " " + A, "int sound ii " + I, "int turn iii " + I + " " + S,
        "int tell iii " + I + " " + A, "int forget ii " + I, "int change ii " + I, "boolean guard iib " + I + " " + A,
        "int days i " + A, "int parts iiib " + I, "int next ii " + I, "int outright ii " + I, "int worst ii " + I,
        "int quietest i " + I, "int loudest -", "int deaf -", "int alone i " + I, "boolean together ii " + I,
        "int fewest ib " + I, "int pair i " + I, "int gains iii " + I + " " + A, "int contract ii " + I + " " + N,
        "int broken -", "int breaks -", "int rota ii " + I + " " + A, "int richest ib " + I, "int first i " + I,
        "int turned ii " + I, "int price i " + I, "int risky -", "int when ii " + I, "int trial ib " + A,
        "int span ib " + A, "int log ii " + N, "int seed i", "boolean undo -", "void image -", "boolean back -",
        "int count i"};

    private static final List<String> IMPORTS = List.of("import java.util.Arrays;",
            "import java.util.NoSuchElementException;");
    private static final String[] BANNED_WORDS = {"catch", "try", "finally", "synchronized", "assert", "native",
        "instanceof", "Object", "Thread", "hashCode", "toString"};
    private static final String[] BANNED_SIGNS = {"->", "::", "Exact(", "System.out", "System.err", "System.nano",
        "System.current", "Math.random"};

    private FaceTest() {
    }

    public static void main(String[] args) throws IOException {
        methods();
        membersBesides();
        source(Files.readAllLines(Path.of("src/main/java/SafeKnown.java")));
        Check.finish("FaceTest");
    }

    private static String told(Method m) {
        StringBuilder s = new StringBuilder(m.getReturnType().getName()).append(' ').append(m.getName()).append(' ');
        for (Class<?> c : m.getParameterTypes()) {
            s.append(c == int.class ? 'i' : c == boolean.class ? 'b' : '?');
        }
        s.append(m.getParameterCount() == 0 ? "-" : "");
        for (Class<?> c : m.getExceptionTypes()) {
            s.append(' ').append(c.getSimpleName());
        }
        return s.toString();
    }

    private static void methods() {
        Set<String> due = new TreeSet<>(Arrays.asList(FACE));
        Set<String> names = new TreeSet<>();
        for (Method m : SafeKnown.class.getDeclaredMethods()) {
            if (Modifier.isPublic(m.getModifiers())) {
                Check.due("the face has " + told(m), due.remove(told(m)), true);
                names.add(m.getName());
            }
        }
        Check.due("missing " + due, due.size(), 0);
        for (Method m : SafeKnown.class.getDeclaredMethods()) {
            boolean open = Modifier.isPublic(m.getModifiers());
            Check.due(m + " is public or private", open || Modifier.isPrivate(m.getModifiers()), true);
            Check.due(m + " bears no public name", !open && names.contains(m.getName()), false);
            Check.due(m + " has seven parameters at most", m.getParameterCount() <= 7, true);
        }
        for (Class<?> c : SafeKnown.class.getDeclaredClasses()) {
            for (Method m : c.getDeclaredMethods()) {
                Check.due(m + " bears no public name", names.contains(m.getName()), false);
                Check.due(m + " has seven parameters at most", m.getParameterCount() <= 7, true);
            }
        }
    }

    private static void membersBesides() {
        Check.due("public and final", SafeKnown.class.getModifiers() & (Modifier.PUBLIC | Modifier.FINAL),
                Modifier.PUBLIC | Modifier.FINAL);
        Check.due("constructors", SafeKnown.class.getDeclaredConstructors().length, 1);
        for (Constructor<?> c : SafeKnown.class.getDeclaredConstructors()) {
            Check.due("public constructor", Modifier.isPublic(c.getModifiers()) && c.getParameterCount() == 0, true);
        }
        fields(SafeKnown.class);
        Check.due("twelve classes at most", SafeKnown.class.getDeclaredClasses().length <= 11, true);
        for (Class<?> c : SafeKnown.class.getDeclaredClasses()) {
            Check.due(c + " is static", Modifier.isStatic(c.getModifiers()), true);
            Check.due(c + " is not public", c.getModifiers() & (Modifier.PUBLIC | Modifier.PROTECTED), 0);
            fields(c);
        }
    }

    private static void fields(Class<?> c) {
        int own = 0;
        for (Field f : c.getDeclaredFields()) {
            boolean fixed = Modifier.isStatic(f.getModifiers());
            Check.due(f + " is final, if static", !fixed || Modifier.isFinal(f.getModifiers()), true);
            if (c == SafeKnown.class) {
                boolean none = f.getName().equals("NONE");
                Check.due(f + " is private, but for NONE", none == Modifier.isPublic(f.getModifiers())
                        && (none || Modifier.isPrivate(f.getModifiers())), true);
            }
            own += fixed ? 0 : 1;
        }
        Check.due(c + " has some twenty fields at most: " + own, own <= 22, true);
    }

    private static void source(List<String> lines) {
        int from = 0;
        for (int i = 0; i < lines.size(); i++) {
            String line = lines.get(i);
            String here = "line " + (i + 1) + ": " + line;
            boolean comment = line.trim().startsWith("*") || line.trim().startsWith("/");
            if (line.startsWith("import")) {
                Check.due(here, IMPORTS.contains(line), true);
            }
            for (String word : BANNED_WORDS) {
                Check.due(here + " has " + word, !comment && line.matches(".*\\b" + word + "\\b.*"), false);
            }
            for (String sign : BANNED_SIGNS) {
                Check.due(here + " has " + sign, !comment && line.contains(sign), false);
            }
            if (line.matches(" {4}( {4})?\\S.*\\{")) {
                from = i;
            }
            if (line.matches(" {4}( {4})?\\}")) {
                Check.due(here + " ends some sixty lines at most", i - from <= 60, true);
            }
            for (char sign : line.toCharArray()) {
                Check.due(here + " is plain", sign >= ' ' && sign < 127, true);
            }
        }
    }
}
