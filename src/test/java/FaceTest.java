import java.io.IOException;
import java.lang.reflect.Constructor;
import java.lang.reflect.Field;
import java.lang.reflect.Method;
import java.lang.reflect.Modifier;
import java.nio.file.Files;
import java.nio.file.Path;
import java.util.ArrayList;
import java.util.Arrays;
import java.util.List;
import java.util.Set;
import java.util.TreeSet;
import java.util.regex.Pattern;

/** The public face of the document, and those rules of LANGUAGE.md that can be seen from outside or word by word. */
public final class FaceTest {
    private static final String[] FACE = {
        "int sheet(int, int, int)", "int set(int, int, int)", "int copy(int, int, int, int, int)", "int drop(int)",
        "int stuff(int, int, int)", "int ship(int, int, int, int)", "int mill(int, int, int, int)",
        "int stock(int, int, int)", "int told(int, int)", "int step(int)", "int ran(int, int)", "int price(int, int)",
        "int feed(long, int)", "int lists()", "int fault()", "int holds(int, int)", "int first(int, int)",
        "int home(int, int)", "int house(int, int)", "int paid(int, int, int, int)", "int thing(int, int, int)",
        "int works(int, int, int, int, int)", "int news(int, int, int, int)", "int known(int, int)", "int kind(int)",
        "int as(int, int)", "int ask(int, int)", "int trace(int)", "int count(int)", "int status()"};
    private static final String[] FORBIDDEN = {
        "throw", "throws", "try", "catch", "finally", "synchronized", "assert", "protected", "hashCode", "toString",
        "Exact", "->", "::", "Object", "Random", "Thread", "System.out", "package"};

    public static void main(String[] args) throws IOException {
        Class<?> c = CottonWeeks.class;
        Due.due("public and final", c.getModifiers(), Modifier.PUBLIC | Modifier.FINAL);
        Due.due("constants", CottonWeeks.NONE, -1000000);
        Due.due("constants", CottonWeeks.BAD, -1000001);
        Due.due("constants", CottonWeeks.STATE, -1000002);
        Due.due("constants", CottonWeeks.FULL, -1000003);
        methods(c);
        fields(c);
        Constructor<?>[] made = c.getDeclaredConstructors();
        Due.due("constructors", made.length, 1);
        Due.due("its parameters", made[0].getParameterCount(), 0);
        Due.due("it is public", made[0].getModifiers(), Modifier.PUBLIC);
        inside(c);
        words(Files.readString(Path.of("src/main/java/CottonWeeks.java")));
        Due.end();
    }

    private static void methods(Class<?> c) {
        Set<String> open = new TreeSet<>();
        Set<String> openNames = new TreeSet<>();
        for (Method m : c.getDeclaredMethods()) {
            if (!Modifier.isPrivate(m.getModifiers())) {
                open.add(shape(m));
                openNames.add(m.getName());
                Due.due(m + " is public and no more", m.getModifiers(), Modifier.PUBLIC);
            }
        }
        Set<String> face = new TreeSet<>(Arrays.asList(FACE));
        Due.due("the face is " + face + ", not " + open, open.equals(face) ? 0 : 1, 0);
        List<Class<?>> all = new ArrayList<>(Arrays.asList(c.getDeclaredClasses()));
        all.add(c);
        for (Class<?> one : all) {
            for (Method m : one.getDeclaredMethods()) {
                boolean inFace = one == c && !Modifier.isPrivate(m.getModifiers());
                Due.due(m + " bears a name of the face", !inFace && openNames.contains(m.getName()) ? 1 : 0, 0);
                Due.due(m + " has too many parameters", m.getParameterCount() > 7 ? 1 : 0, 0);
            }
        }
    }

    private static String shape(Method m) {
        StringBuilder text = new StringBuilder(m.getReturnType() + " " + m.getName() + "(");
        for (Class<?> p : m.getParameterTypes()) {
            text.append(text.charAt(text.length() - 1) == '(' ? "" : ", ").append(p);
        }
        return text.append(')').toString();
    }

    private static void fields(Class<?> c) {
        int open = 0;
        for (Field f : c.getDeclaredFields()) {
            if (!Modifier.isPrivate(f.getModifiers())) {
                open++;
                Due.due(f + " is a public constant", f.getModifiers(),
                        Modifier.PUBLIC | Modifier.STATIC | Modifier.FINAL);
            }
        }
        Due.due("open fields", open, 4);
    }

    private static void inside(Class<?> c) {
        Class<?>[] classes = c.getDeclaredClasses();
        Due.due("some twelve classes at most", classes.length < 12 ? 0 : 1, 0);
        for (Class<?> one : classes) {
            int m = one.getModifiers();
            Due.due(one + " is static", Modifier.isStatic(m) ? 0 : 1, 0);
            Due.due(one + " is hidden", Modifier.isPublic(m) || Modifier.isProtected(m) ? 1 : 0, 0);
            int own = 0;
            for (Field f : one.getDeclaredFields()) {
                if (Modifier.isStatic(f.getModifiers())) {
                    Due.due(f + " is final", Modifier.isFinal(f.getModifiers()) ? 0 : 1, 0);
                } else {
                    own++;
                }
            }
            Due.due(one + " has some twenty fields at most", own <= 20 ? 0 : 1, 0);
        }
    }

    private static void words(String source) {
        String code = source.replaceAll("(?s)/\\*.*?\\*/", " ").replaceAll("//[^\n]*", " ");
        for (String word : FORBIDDEN) {
            String edges = Character.isLetter(word.charAt(0)) && !word.equals("Exact") ? "\\b" : "";
            boolean there = Pattern.compile(edges + Pattern.quote(word) + edges).matcher(code).find();
            Due.due("'" + word + "' stands in the source", there ? 1 : 0, 0);
        }
        int imports = code.split("\\bimport\\b", -1).length - 1;
        Due.due("java.util.Arrays alone is imported", code.contains("import java.util.Arrays;") ? imports : -1, 1);
    }
}
