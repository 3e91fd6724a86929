import java.io.IOException;
import java.io.PrintWriter;
import java.io.StringWriter;
import java.lang.reflect.Constructor;
import java.lang.reflect.Field;
import java.lang.reflect.Method;
import java.lang.reflect.Modifier;
import java.nio.file.Files;
import java.nio.file.Path;
import java.util.ArrayList;
import java.util.Arrays;
import java.util.HashMap;
import java.util.HashSet;
import java.util.List;
import java.util.Map;
import java.util.Set;
import java.util.TreeSet;
import java.util.regex.Matcher;
import java.util.regex.Pattern;
import java.util.spi.ToolProvider;
import java.util.stream.Collectors;

/** What of ../shared/LANGUAGE.md a program can see: the face, the library, and how deep calls go. */
public final class LanguageRules {
    private static final int MOST_DEPTH = 8;
    private static final int MOST_CLASSES = 12;
    private static final int MOST_FIELDS = 20;
    private static final int MOST_LINES = 60;
    /** Of what the library lets, all that the class needs. */
    private static final Set<String> LIBRARY = Set.of("Object.<init>", "ArrayList.<init>", "ArrayList.add", "ArrayList.get",
            "ArrayList.size", "ArrayList.isEmpty", "ArrayList.clear", "Arrays.fill", "System.arraycopy", "Integer.bitCount",
            "Long.bitCount", "Math.min", "Math.max", "Math.abs", "StringBuilder.<init>", "StringBuilder.append",
            "StringBuilder.toString");
    private static final Set<String> EXCEPTIONS = Set.of("IndexOutOfBoundsException.<init>",
            "IllegalArgumentException.<init>", "IllegalStateException.<init>");
    private static final Set<String> THROWERS = Set.of("PerfgaugeHouse.checkThere", "PerfgaugeHouse.checkGiven",
            "PerfgaugeHouse.checkState");
    /** It goes one call deeper for each PIECE of a SHEET, so three at the most. */
    private static final Set<String> CALLS_ITSELF = Set.of("PerfgaugeHouse$Sheet.placeFrom");

    private static int wrong = 0;

    private static void check(boolean isKept, String rule) {
        if (!isKept) {
            wrong++;
            System.out.println("not kept: " + rule);
        }
    }

    public static void main(String[] args) throws IOException {
        Path source = Path.of(args.length > 0 ? args[0] : "src/main/java/PerfgaugeHouse.java");
        String text = Files.readString(source);
        checkFace(Files.readString(Path.of("../shared/DOC.md")));
        checkMembers();
        checkText(text);
        checkCalls();
        System.out.println(wrong == 0 ? "the rules are kept" : wrong + " rules are not kept");
        System.exit(wrong == 0 ? 0 : 1);
    }

    private static void checkFace(String document) {
        int from = document.indexOf("public final class PerfgaugeHouse {");
        String face = document.substring(from, document.indexOf("```", from));
        Set<String> wanted = new TreeSet<>();
        Matcher line = Pattern.compile("(?m)^    public (?!PerfgaugeHouse\\()([^;]*);").matcher(face);
        while (line.find()) {
            wanted.add(line.group(1).replaceAll("\\b(int|boolean) \\w+(?=[,)])", "$1"));
        }
        Set<String> found = new TreeSet<>();
        for (Method method : PerfgaugeHouse.class.getDeclaredMethods()) {
            if (!Modifier.isPrivate(method.getModifiers()) && !method.isSynthetic()) found.add(signature(method));
        }
        check(wanted.size() == 45, "45 methods are read from the document");
        check(wanted.equals(found), "the face: wanted " + wanted + ", found " + found);
        Constructor<?>[] makers = PerfgaugeHouse.class.getDeclaredConstructors();
        check(makers.length == 1 && makers[0].getParameterCount() == 0 && Modifier.isPublic(makers[0].getModifiers()),
                "one public constructor without arguments");
    }

    private static String signature(Method method) {
        String arguments = Arrays.stream(method.getParameterTypes()).map(Class::getSimpleName).collect(Collectors.joining(", "));
        String thrown = Arrays.stream(method.getExceptionTypes()).map(Class::getSimpleName).collect(Collectors.joining(", "));
        return method.getReturnType().getSimpleName() + " " + method.getName() + "(" + arguments + ")"
                + (thrown.isEmpty() ? "" : " throws " + thrown);
    }

    private static void checkMembers() {
        Class<?>[] inside = PerfgaugeHouse.class.getDeclaredClasses();
        check(inside.length + 1 <= MOST_CLASSES, "at most some twelve classes: " + (inside.length + 1));
        List<Class<?>> all = new ArrayList<>(List.of(inside));
        all.add(PerfgaugeHouse.class);
        Set<String> open = new HashSet<>();
        for (Method method : PerfgaugeHouse.class.getMethods()) open.add(method.getName());
        for (Class<?> type : all) {
            int fields = 0;
            for (Field field : type.getDeclaredFields()) {
                boolean isStatic = Modifier.isStatic(field.getModifiers());
                check(!isStatic || Modifier.isFinal(field.getModifiers()), "static fields are final: " + field);
                check(type != PerfgaugeHouse.class || Modifier.isPrivate(field.getModifiers()), "private: " + field);
                if (!isStatic) fields++;
            }
            check(fields <= MOST_FIELDS, "some twenty fields: " + type + " has " + fields);
            for (Method method : type.getDeclaredMethods()) {
                check(method.getParameterCount() <= 7, "seven parameters: " + method);
                check(!Modifier.isPrivate(method.getModifiers()) || !open.contains(method.getName()),
                        "no private method bears the name of a public one: " + method);
            }
        }
        for (Class<?> type : inside) {
            check(Modifier.isStatic(type.getModifiers()) && !Modifier.isPublic(type.getModifiers())
                    && !Modifier.isProtected(type.getModifiers()), "a class inside is static and not open: " + type);
        }
    }

    private static void checkText(String text) {
        String code = text.replaceAll("(?s)/\\*.*?\\*/", "").replaceAll("//[^\n]*", "");
        check(text.chars().allMatch(sign -> sign < 128), "signs are 1 to 127");
        Set<String> imports = new TreeSet<>();
        Matcher line = Pattern.compile("(?m)^import (.*);").matcher(code);
        while (line.find()) imports.add(line.group(1));
        check(Set.of("java.util.ArrayList", "java.util.Arrays").containsAll(imports), "imports: " + imports);
        for (String word : List.of("->", "::", "finally", "synchronized", "assert", "volatile", "catch", "try",
                "package", "System.out", "hashCode", "toArray", "Exact", "record ", "float", "double")) {
            check(!Pattern.compile("(?<![A-Za-z])" + Pattern.quote(word)).matcher(code).find(), "not used: " + word);
        }
        check(!Pattern.compile("\"\\s*\\+|\\+\\s*\"").matcher(code).find(), "texts are not joined by +");
        checkLengths(text.split("\n"));
    }

    private static void checkLengths(String[] lines) {
        for (String indent : List.of("    ", "        ")) {
            int from = -1;
            for (int i = 0; i < lines.length; i++) {
                if (lines[i].startsWith(indent) && lines[i].endsWith("{") && !lines[i].startsWith(indent + " ")) from = i;
                boolean isMethod = from >= 0 && lines[from].contains("(");
                if (lines[i].equals(indent + "}") && isMethod) check(i - from <= MOST_LINES, "short: " + lines[from]);
            }
        }
    }

    /** Follows all calls from the face on, by what javap tells of the classes. */
    private static void checkCalls() {
        String place = System.getProperty("java.class.path");
        List<String> arguments = new ArrayList<>(List.of("-c", "-p", "-cp", place, "PerfgaugeHouse"));
        for (Class<?> type : PerfgaugeHouse.class.getDeclaredClasses()) arguments.add(type.getName());
        StringWriter told = new StringWriter();
        PrintWriter out = new PrintWriter(told);
        ToolProvider.findFirst("javap").orElseThrow().run(out, out, arguments.toArray(new String[0]));
        Map<String, Set<String>> calls = readCalls(told.toString());
        check(calls.size() > 100, "calls are read: " + calls.size());
        checkInstructions(told.toString());
        checkRecursion(calls);
        Map<String, Integer> depths = new HashMap<>();
        int deepest = 0;
        String where = "";
        for (String method : calls.keySet()) {
            int depth = depthOf(method, calls, depths, new HashSet<>());
            if (depth > deepest) {
                deepest = depth;
                where = method;
            }
        }
        System.out.println("calls go " + deepest + " deep, from " + where);
        check(deepest <= MOST_DEPTH, "calls that are no recursion go at most eight deep");
    }

    /** Exceptions come from the three methods that check alone, the library is what is listed, nothing is caught. */
    private static void checkInstructions(String told) {
        for (String word : List.of("Exception table", "invokedynamic", "monitorenter", "multianewarray", "putstatic")) {
            check(!told.contains(word), "none of it: " + word);
        }
        Pattern call = Pattern.compile("// (?:Interface)?Method (java/[\\w/]+)\\.\"?([\\w<>$]+)\"?:");
        Pattern cast = Pattern.compile("(?:checkcast|anewarray).*// class \"?([^\"]+)");
        String method = "";
        for (String line : told.split("\n")) {
            method = methodAfter(method, line);
            Matcher called = call.matcher(line);
            if (called.find()) {
                String name = called.group(1).replaceAll(".*/", "") + "." + called.group(2);
                boolean isThrower = THROWERS.contains(method) && EXCEPTIONS.contains(name);
                check(LIBRARY.contains(name) || isThrower, "library: " + name + " in " + method);
            }
            check(!line.contains("athrow") || THROWERS.contains(method), "no throw in " + method);
            Matcher made = cast.matcher(line);
            if (made.find()) check(made.group(1).startsWith("PerfgaugeHouse$"), "casts and arrays of own classes: " + line);
        }
    }

    /** No method comes back to itself but the one that carries its depth. */
    private static void checkRecursion(Map<String, Set<String>> calls) {
        for (String method : calls.keySet()) {
            Set<String> reached = new HashSet<>();
            List<String> open = new ArrayList<>(calls.get(method));
            while (!open.isEmpty()) {
                String next = open.remove(open.size() - 1);
                if (reached.add(next)) open.addAll(calls.getOrDefault(next, Set.of()));
            }
            check(!reached.contains(method) || CALLS_ITSELF.contains(method), "it calls itself: " + method);
        }
    }

    private static final Pattern TYPE = Pattern.compile("class ([\\w$]+) ");
    private static final Pattern HEAD = Pattern.compile("^  [^ ].*?([\\w$]+)\\((.*)\\).*;$");

    /** In which method what javap tells is after this line, if it was in that one before. */
    private static String methodAfter(String before, String line) {
        Matcher opened = TYPE.matcher(line);
        if (!line.startsWith(" ") && opened.find()) return opened.group(1) + ".";
        Matcher headed = HEAD.matcher(line);
        if (!headed.find()) return before;
        String type = before.substring(0, before.indexOf('.'));
        return type + "." + (headed.group(1).equals(type) ? "<init>" : headed.group(1));
    }

    private static Map<String, Set<String>> readCalls(String told) {
        Map<String, Set<String>> calls = new HashMap<>();
        String method = "";
        Pattern call = Pattern.compile("// Method (?:([\\w$/]+)\\.)?\"?([\\w<>$]+)\"?:");
        for (String line : told.split("\n")) {
            method = methodAfter(method, line);
            if (HEAD.matcher(line).find()) calls.put(method, new HashSet<>());
            Matcher called = call.matcher(line);
            if (called.find() && calls.containsKey(method)) {
                String of = called.group(1) == null ? method.substring(0, method.indexOf('.')) : called.group(1);
                if (of.startsWith("PerfgaugeHouse")) calls.get(method).add(of + "." + called.group(2));
            }
        }
        return calls;
    }

    private static int depthOf(String method, Map<String, Set<String>> calls, Map<String, Integer> depths, Set<String> open) {
        if (depths.containsKey(method)) return depths.get(method);
        if (!calls.containsKey(method) || !open.add(method)) return 0;
        int most = 0;
        for (String called : calls.get(method)) {
            most = Math.max(most, depthOf(called, calls, depths, open));
        }
        open.remove(method);
        depths.put(method, most + 1);
        return most + 1;
    }
}
