import java.io.ByteArrayOutputStream;
import java.io.IOException;
import java.io.PrintStream;
import java.lang.reflect.Method;
import java.net.URL;
import java.net.URLClassLoader;
import java.nio.charset.StandardCharsets;
import java.nio.file.Files;
import java.nio.file.Path;
import java.util.ArrayList;
import java.util.List;
import java.util.Map;
import java.util.regex.Matcher;
import java.util.regex.Pattern;
import java.util.stream.Stream;
import javax.tools.ToolProvider;

/** README.md: its program prints what stands there, and each call answers what stands behind it. */
public final class ReadmeTest {
    private static final Pattern CALL = Pattern.compile("x\\.(\\w+)\\((.*)\\); *// (-?\\w+)(:.*)?");
    private static final Map<String, Integer> NAMES = Map.of("NONE", CottonWeeks.NONE, "BAD", CottonWeeks.BAD,
            "FULL", CottonWeeks.FULL, "CottonWeeks.NONE", CottonWeeks.NONE);

    public static void main(String[] args) throws IOException, ReflectiveOperationException {
        String page = Files.readString(Path.of("README.md"));
        List<String> java = blocks(page, "java");
        Due.due("java blocks", java.size() > 5 ? 1 : 0, 1);
        programPrints(java.get(0), blocks(page, "text").get(0));
        for (String block : java.subList(1, java.size())) {
            callsAnswer(block);
        }
        Due.end();
    }

    private static List<String> blocks(String page, String language) {
        List<String> blocks = new ArrayList<>();
        Matcher next = Pattern.compile("(?s)```" + language + "\n(.*?)```").matcher(page);
        while (next.find()) {
            blocks.add(next.group(1));
        }
        return blocks;
    }

    private static void callsAnswer(String block) throws ReflectiveOperationException {
        String[] lines = block.split("\n");
        Due.due("a new object: " + lines[0], lines[0].equals("CottonWeeks x = new CottonWeeks();") ? 1 : 0, 1);
        CottonWeeks x = new CottonWeeks();
        for (int k = 1; k < lines.length; k++) {
            Matcher told = CALL.matcher(lines[k]);
            boolean isCall = told.matches();
            Due.due("a call and its answer: " + lines[k], isCall ? 1 : 0, 1);
            if (isCall) {
                Due.due(lines[k], call(x, told.group(1), told.group(2)), number(told.group(3)));
            }
        }
    }

    private static int call(CottonWeeks x, String name, String arguments) throws ReflectiveOperationException {
        String[] words = arguments.isEmpty() ? new String[0] : arguments.split(", ");
        for (Method m : CottonWeeks.class.getDeclaredMethods()) {
            if (m.getName().equals(name)) {
                Object[] given = new Object[words.length];
                for (int k = 0; k < given.length; k++) {
                    long v = number(words[k]);
                    if (m.getParameterTypes()[k] == long.class) {
                        given[k] = v;
                    } else {
                        given[k] = (int) v;
                    }
                }
                return (int) m.invoke(x, given);
            }
        }
        throw new NoSuchMethodException(name);
    }

    private static long number(String word) {
        return NAMES.containsKey(word) ? NAMES.get(word) : Long.decode(word.replace("L", ""));
    }

    private static void programPrints(String program, String due) throws IOException, ReflectiveOperationException {
        Path place = Files.createTempDirectory("readme");
        Path file = place.resolve("Weeks.java");
        Files.writeString(file, program);
        String classes = System.getProperty("java.class.path");
        int fails = ToolProvider.getSystemJavaCompiler().run(null, null, null, "-cp", classes, "-d", place.toString(),
                file.toString());
        Due.due("the program is compiled", fails, 0);
        if (fails == 0) {
            String printed = outputOf(place);
            Due.due("the program prints:\n" + printed + "due:\n" + due, printed.equals(due) ? 1 : 0, 1);
        }
        try (Stream<Path> files = Files.list(place)) {
            for (Path p : files.toList()) {
                Files.delete(p);
            }
        }
        Files.delete(place);
    }

    private static String outputOf(Path place) throws IOException, ReflectiveOperationException {
        PrintStream screen = System.out;
        ByteArrayOutputStream printed = new ByteArrayOutputStream();
        try (URLClassLoader loader = new URLClassLoader(new URL[] {place.toUri().toURL()})) {
            System.setOut(new PrintStream(printed, true, StandardCharsets.UTF_8));
            loader.loadClass("Weeks").getMethod("main", String[].class).invoke(null, (Object) new String[0]);
        } finally {
            System.setOut(screen);
        }
        return printed.toString(StandardCharsets.UTF_8).replace(System.lineSeparator(), "\n");
    }
}
