import java.lang.reflect.Method;
import java.lang.reflect.Modifier;
import java.util.ArrayList;
import java.util.Arrays;
import java.util.LinkedHashMap;
import java.util.List;
import java.util.Map;
import java.util.TreeSet;
import java.util.regex.Matcher;
import java.util.regex.Pattern;

/** The public face, line by line as the document has it, and what the interface says ahead of its calls. */
final class FaceEdges extends Edge {
    private static final Pattern CALL = Pattern.compile("public (int|long) (\\w+)\\(([^)]*)\\);");
    private static final Pattern AHEAD = Pattern.compile("Ahead of the calls ([^-]*) the interface says: ---- ([a-z ]*)\\.");

    private FaceEdges() {
    }

    static void run(String source) {
        at("The public face");
        itself();
        constants();
        calls();
        at("Terms");
        groups(source);
    }

    private static void itself() {
        test("public final class LeftBehind {", "so it is, and it is nothing else", () -> {
            due("public and final", LeftBehind.class.getModifiers(), Modifier.PUBLIC | Modifier.FINAL);
            due("interfaces", LeftBehind.class.getInterfaces().length, 0);
            same("what it extends", LeftBehind.class.getSuperclass(), Object.class);
            same("no package", LeftBehind.class.getPackageName(), "");
        });
        test("public LeftBehind();", "it, and no other", () -> {
            due("how many", LeftBehind.class.getDeclaredConstructors().length, 1);
            due("public, without arguments", LeftBehind.class.getConstructors()[0].getParameterCount(), 0);
        });
    }

    private static void constants() {
        test("public static final int NONE = -1, BAD = -2, NO = -3, FULL = -4;", "each", () -> {
            due("NONE", LeftBehind.NONE, -1);
            due("BAD", LeftBehind.BAD, -2);
            due("NO", LeftBehind.NO, -3);
            due("FULL", LeftBehind.FULL, -4);
        });
        test("public static final int NONE = -1, BAD = -2, NO = -3, FULL = -4;", "no other public field, no array behind one", () -> {
            due("how many", LeftBehind.class.getFields().length, 4);
            for (java.lang.reflect.Field field : LeftBehind.class.getFields()) {
                same(field.getName() + " is an int", field.getType(), int.class);
                due(field.getName(), field.getModifiers(), Modifier.PUBLIC | Modifier.STATIC | Modifier.FINAL);
            }
        });
    }

    private static void calls() {
        TreeSet<String> due = new TreeSet<>();
        Matcher line = CALL.matcher(words("The public face"));
        while (line.find()) {
            String told = line.group(1) + " " + line.group(2) + "(" + line.group(3).replaceAll("(int|long) \\w+", "$1") + ")";
            due.add(told.replace(", ", ","));
            test(line.group(), "it answers", () -> holds(told, faceOfClass().contains(told.replace(", ", ","))));
        }
        test("}", "these, and no other", () -> same("all calls", due.isEmpty() ? due : faceOfClass(), due));
    }

    private static TreeSet<String> faceOfClass() {
        TreeSet<String> face = new TreeSet<>();
        for (Method m : LeftBehind.class.getDeclaredMethods()) {
            if (m.getModifiers() == Modifier.PUBLIC) {
                String told = Arrays.toString(Arrays.stream(m.getParameterTypes()).map(Class::getName).toArray());
                face.add(m.getReturnType() + " " + m.getName() + "(" + told.replaceAll("[\\[\\] ]", "") + ")");
            }
        }
        return face;
    }

    private static void groups(String source) {
        Map<String, List<String>> groups = groupsOf(source);
        Matcher ahead = AHEAD.matcher(words("Terms"));
        while (ahead.find()) {
            List<String> due = Arrays.asList(ahead.group(1).replaceAll("[` ]", "").split(","));
            String name = ahead.group(2);
            test(ahead.group(), "so the class says, too", () -> same(name, groups.getOrDefault(name, List.of()), due));
        }
    }

    /** By what is said ahead of them: the public methods, as they come. */
    private static Map<String, List<String>> groupsOf(String source) {
        Map<String, List<String>> groups = new LinkedHashMap<>();
        String group = "";
        for (String line : source.split("\n")) {
            Matcher method = Pattern.compile(" {4}public (?:int|long) (\\w+)\\(.*").matcher(line);
            if (line.startsWith("    // ---- ")) {
                group = line.substring(12).trim();
            } else if (method.matches()) {
                groups.computeIfAbsent(group, g -> new ArrayList<>()).add(method.group(1));
            }
        }
        return groups;
    }
}
