import java.io.IOException;
import java.io.PrintWriter;
import java.io.StringWriter;
import java.lang.reflect.InvocationTargetException;
import java.lang.reflect.Method;
import java.net.URL;
import java.net.URLClassLoader;
import java.nio.file.Files;
import java.nio.file.Path;
import java.util.ArrayList;
import java.util.Arrays;
import java.util.HashMap;
import java.util.List;
import java.util.Map;
import java.util.regex.Matcher;
import java.util.regex.Pattern;
import java.util.spi.ToolProvider;

/** What README.md says: its calls answer as it tells, and its tables name each method with what it throws. */
public final class ReadmeTests extends Answers {
    private static final Map<String, String> LETTERS = Map.of("N", "IndexOutOfBoundsException",
            "A", "IllegalArgumentException", "S", "IllegalStateException");

    public static void main(String[] args) throws Exception {
        String page = Files.readString(Path.of("README.md"));
        methodsAreNamed(page);
        examplesHold(page);
        end();
    }

    private static void methodsAreNamed(String page) {
        Map<String, String> named = new HashMap<>();
        Matcher row = Pattern.compile("(?m)^\\| `(\\w+)\\(([^)]*)\\)` \\|.*\\| ?([NAS ]*)\\|$").matcher(page);
        while (row.find()) {
            int arguments = row.group(2).isEmpty() ? 0 : row.group(2).split(", ").length;
            String thrown = row.group(3).trim().replaceAll("\\s+", " ");
            named.put(row.group(1), arguments + " " + thrown);
        }
        int methods = 0;
        for (Method method : PerfgaugeHouse.class.getMethods()) {
            if (method.getDeclaringClass() != PerfgaugeHouse.class) continue;
            methods++;
            String told = named.getOrDefault(method.getName(), "not named");
            StringBuilder thrown = new StringBuilder(method.getParameterCount() + " ");
            for (Class<?> type : method.getExceptionTypes()) {
                for (Map.Entry<String, String> letter : LETTERS.entrySet()) {
                    if (letter.getValue().equals(type.getSimpleName())) thrown.append(letter.getKey()).append(' ');
                }
            }
            compare("README.md of " + method.getName(), thrown.toString().trim(), told.trim());
        }
        compare("README.md names each method", methods, named.size());
    }

    /** Each example becomes a class of which run() tells what each line with an answer answers. */
    private static void examplesHold(String page) throws IOException, ReflectiveOperationException {
        Path place = Files.createTempDirectory("readme");
        place.toFile().deleteOnExit();
        Matcher block = Pattern.compile("(?s)```java\\n(.*?)```").matcher(page);
        int examples = 0;
        while (block.find()) {
            runExample("Example" + examples, block.group(1), place);
            examples++;
        }
        compare("README.md has examples", true, examples > 0);
    }

    private static void runExample(String name, String lines, Path place)
            throws IOException, ReflectiveOperationException {
        StringBuilder text = new StringBuilder("public final class " + name + " {\n"
                + "    public static void run(java.util.List<Object> got) {\n");
        StringBuilder dues = new StringBuilder();
        for (String line : lines.split("\n")) {
            int at = line.indexOf("// ");
            if (at < 0) {
                text.append(line).append('\n');
            } else {
                String call = line.substring(0, at).trim().replaceAll(";$", "");
                text.append("try { got.add(").append(call).append("); } catch (RuntimeException e) { ")
                        .append("got.add(\"throws \" + e.getClass().getSimpleName()); }\n");
                dues.append(line.substring(at + 3).trim()).append('\n');
            }
        }
        text.append("    }\n}\n");
        Path file = place.resolve(name + ".java");
        Files.writeString(file, text.toString());
        file.toFile().deleteOnExit();
        place.resolve(name + ".class").toFile().deleteOnExit();
        StringWriter told = new StringWriter();
        PrintWriter out = new PrintWriter(told);
        int code = ToolProvider.findFirst("javac").orElseThrow().run(out, out, "-cp",
                System.getProperty("java.class.path"), "-d", place.toString(), file.toString());
        compare("README.md, " + name + " compiles " + told, 0, code);
        if (code == 0) compareAnswers(name, lines, dues.toString().split("\n"), place);
    }

    private static void compareAnswers(String name, String lines, String[] dues, Path place)
            throws IOException, ReflectiveOperationException {
        List<Object> got = new ArrayList<>();
        try (URLClassLoader loader = new URLClassLoader(new URL[] {place.toUri().toURL()})) {
            loader.loadClass(name).getMethod("run", List.class).invoke(null, got);
        } catch (InvocationTargetException e) {
            compare("README.md, " + name + " throws nothing", "nothing", e.getCause().toString());
        }
        String[] told = Arrays.stream(lines.split("\n")).filter(line -> line.contains("// ")).toArray(String[]::new);
        for (int i = 0; i < dues.length && i < got.size(); i++) {
            compare("README.md, " + told[i].trim(), dues[i], got.get(i).toString());
        }
        compare("README.md, " + name + " has so many answers", dues.length, got.size());
    }
}
