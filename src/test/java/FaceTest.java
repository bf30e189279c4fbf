import java.io.IOException;
import java.lang.reflect.Constructor;
import java.lang.reflect.Field;
import java.lang.reflect.Method;
import java.lang.reflect.Modifier;
import java.nio.file.Files;
import java.nio.file.Path;
import java.util.Arrays;
import java.util.HashSet;
import java.util.List;
import java.util.Set;
import java.util.TreeSet;
import java.util.regex.Matcher;
import java.util.regex.Pattern;

/** The public face, and the rules of LANGUAGE.md that can be seen from outside. Run from the project's root. */
public final class FaceTest {
    private static final List<String> FACE = List.of(
        "feed(int)", "duchy()", "fault()", "told(int)", "box(int, int)", "regent(int, int)", "bar(int)", "wind(int, int)",
        "sit(int, int)", "rise(int)", "push(int)", "oil(int)", "damp(int, boolean)", "drift(int)", "undo()", "comes(int)",
        "order(int)", "both(int, int)", "ahead(int, int)", "parted(int, int)", "quiet(int, int)", "hold(int)", "lasts(int)",
        "says(int)", "dry(int, int)", "see(int, boolean)", "catches(int)", "tryBar(int)", "write(int, int)", "tear()", "judge()",
        "seed(int)", "keep(int)", "goBack(int)");
    private static final Pattern FORBIDDEN = Pattern.compile(
        "\\b(throw|throws|try|catch|finally|synchronized|assert|import|package|goto|strictfp|volatile|transient|native|Object|System"
        + "(?!\\.arraycopy\\b)|\\w*Exact|\\w*Exception|Random|Thread|Class)\\b|->|::|\"");

    private static final Dues DUES = new Dues();

    public static void main(String[] args) throws IOException {
        members();
        constants();
        nestedClasses();
        source();
        DUES.end();
    }

    private static void isSo(String what, boolean is) {
        DUES.due(what, is ? 1 : 0, 1);
    }

    private static String signature(Method m) {
        StringBuilder s = new StringBuilder(m.getName()).append('(');
        for (int i = 0; i < m.getParameterCount(); i++) {
            s.append(i > 0 ? ", " : "").append(m.getParameterTypes()[i].getName());
        }
        return s.append(')').toString();
    }

    private static void members() {
        Class<?> c = BoxedHeirs.class;
        isSo("public and final", Modifier.isPublic(c.getModifiers()) && Modifier.isFinal(c.getModifiers()));
        Constructor<?>[] made = c.getDeclaredConstructors();
        isSo("one public constructor", made.length == 1 && made[0].getParameterCount() == 0 && Modifier.isPublic(made[0].getModifiers()));
        Set<String> open = new TreeSet<>();
        for (Method m : c.getDeclaredMethods()) {
            if (!Modifier.isPrivate(m.getModifiers())) {
                open.add(signature(m));
                isSo(m + " is public, not static, an int", Modifier.isPublic(m.getModifiers())
                    && !Modifier.isStatic(m.getModifiers()) && m.getReturnType() == int.class);
            }
        }
        isSo("the methods are those of the face: " + open, open.equals(new TreeSet<>(FACE)));
    }

    private static void constants() {
        String[] names = {"NONE", "UNKNOWN", "OUTSIDE", "NOT", "FULL"};
        int open = 0;
        for (Field f : BoxedHeirs.class.getDeclaredFields()) {
            if (!Modifier.isPrivate(f.getModifiers())) {
                open++;
                isSo(f + " is a constant of the face", Arrays.asList(names).contains(f.getName()) && f.getType() == int.class
                    && Modifier.isPublic(f.getModifiers()) && Modifier.isStatic(f.getModifiers()) && Modifier.isFinal(f.getModifiers()));
            }
            if (Modifier.isStatic(f.getModifiers())) {
                isSo(f + " is final", Modifier.isFinal(f.getModifiers()));
            }
        }
        DUES.due("constants of the face", open, names.length);
        DUES.due("NONE", BoxedHeirs.NONE, -1);
        DUES.due("UNKNOWN", BoxedHeirs.UNKNOWN, -1000000001);
        DUES.due("OUTSIDE", BoxedHeirs.OUTSIDE, -1000000002);
        DUES.due("NOT", BoxedHeirs.NOT, -1000000003);
        DUES.due("FULL", BoxedHeirs.FULL, -1000000004);
    }

    private static void nestedClasses() {
        Set<String> faceNames = new HashSet<>();
        for (String s : FACE) {
            faceNames.add(s.substring(0, s.indexOf('(')));
        }
        Class<?>[] nested = BoxedHeirs.class.getDeclaredClasses();
        isSo("some twelve classes at most", nested.length < 12);
        for (Class<?> c : nested) {
            isSo(c + " is static", Modifier.isStatic(c.getModifiers()));
            isSo(c + " is not open", !Modifier.isPublic(c.getModifiers()) && !Modifier.isProtected(c.getModifiers()));
            isSo(c + " has few fields",
                Arrays.stream(c.getDeclaredFields()).filter(f -> !Modifier.isStatic(f.getModifiers())).count() <= 20);
            for (Method m : c.getDeclaredMethods()) {
                isSo(m + " has no name of the face", !faceNames.contains(m.getName()));
                isSo(m + " has few parameters", m.getParameterCount() <= 7);
            }
        }
        for (Method m : BoxedHeirs.class.getDeclaredMethods()) {
            isSo(m + " has few parameters", m.getParameterCount() <= 7);
            isSo(m + " has no name of the face", !Modifier.isPrivate(m.getModifiers()) || !faceNames.contains(m.getName()));
        }
    }

    private static void source() throws IOException {
        String text = Files.readString(Path.of("src/main/java/BoxedHeirs.java"));
        isSo("plain letters alone", text.chars().allMatch(c -> c == '\n' || c >= 32 && c < 127));
        String code = text.replaceAll("(?s)/\\*.*?\\*/", "").replaceAll("//[^\n]*", "");
        Matcher m = FORBIDDEN.matcher(code);
        while (m.find()) {
            isSo("\"" + m.group() + "\" is not in the code", false);
        }
        int methodLines = 0;
        for (String line : code.split("\n")) {
            isSo("made with the object alone: " + line, !line.contains("new ") || line.matches(" +(private )?final .*"));
            methodLines = line.matches(" {4}( {4})?}") ? 0 : methodLines + 1;
            isSo("no long method up to: " + line, methodLines <= 70);
        }
    }
}
