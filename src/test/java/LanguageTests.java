import java.io.IOException;
import java.lang.reflect.Array;
import java.lang.reflect.Field;
import java.lang.reflect.Method;
import java.lang.reflect.Modifier;
import java.nio.file.Files;
import java.nio.file.Path;
import java.util.ArrayDeque;
import java.util.ArrayList;
import java.util.Arrays;
import java.util.IdentityHashMap;
import java.util.List;
import java.util.Map;
import java.util.TreeMap;
import java.util.TreeSet;
import java.util.regex.Matcher;
import java.util.regex.Pattern;

/** What of LANGUAGE.md can be seen in the text and in the compiled class. */
final class LanguageTests {
    private static final String FACE = "int island() int ship(int) int man(int,int,int) int type(int) int clear() int read() "
        + "int calls(int) int boards(int,int) int undo() int of(int,int) int about(int,int) int left(int) int needs(int,int) "
        + "int far(int) int behind(int,int) int lasts(int,int) int few(int,int) int crew(int,int) int seen(int,int,int,int) "
        + "int skilled(int,int) int tell(int) int note(int,int,int,int) int mark(int,int,int,int) int forget(int) int is(int) "
        + "int look(int) int kinds(int) int ask(int) int water(int,int,int) int lots(int,int) int centuries(int,int) "
        + "long part(int) int image(int) int from(int) int status(int) int count(int) long digest()";
    private static final String[] FORBIDDEN = {"throw", "throws", "try", "catch", "finally", "synchronized", "assert",
        "import", "package", "instanceof", "->", "::", "System.out", "Random", "Thread", "equals", "hashCode", "toString",
        "record", "enum", "volatile", "native", "var", "protected"};

    private static final String LIBRARY = "java/lang/Object\\.<init>.*|java/lang/Integer\\.bitCount.*|java/lang/Math\\.(min|max|abs)\\(.*"
        + "|java/lang/System\\.arraycopy.*|java/lang/String\\.(length|charAt)\\(.*";

    private LanguageTests() {
    }

    static void run(String path) throws Exception {
        String source = Files.readString(Path.of(path)).replaceAll("(?s)/\\*.*?\\*/", "").replaceAll("//[^\n]*", "");
        face();
        forbidden(source);
        loops(source);
        classes();
        members();
        types();
        methods(source);
        objects(source);
        library();
        depth();
        room();
    }

    private static void face() {
        TreeSet<String> due = new TreeSet<>(Arrays.asList(FACE.split("(?<=\\)) ")));
        TreeSet<String> got = new TreeSet<>();
        TreeSet<String> names = new TreeSet<>();
        List<Method> others = new ArrayList<>();
        for (Method m : LeftBehind.class.getDeclaredMethods()) {
            if (Modifier.isPublic(m.getModifiers())) {
                String told = Arrays.toString(Arrays.stream(m.getParameterTypes()).map(Class::getName).toArray());
                got.add(m.getReturnType() + " " + m.getName() + "(" + told.replaceAll("[\\[\\] ]", "") + ")");
                names.add(m.getName());
            } else {
                others.add(m);
            }
        }
        Check.holds("the face: " + got, got.equals(due));
        for (Class<?> c : LeftBehind.class.getDeclaredClasses()) {
            others.addAll(Arrays.asList(c.getDeclaredMethods()));
            Check.holds(c + " is static", Modifier.isStatic(c.getModifiers()));
        }
        for (Method m : others) {
            Check.holds(m + " has a name of its own", !names.contains(m.getName()));
            Check.holds(m + " has seven parameters at most", m.getParameterCount() <= 7);
        }
        Check.due("constructors", LeftBehind.class.getDeclaredConstructors().length, 1);
        Check.due("public fields", LeftBehind.class.getFields().length, 4);
    }

    private static void forbidden(String source) {
        for (String word : FORBIDDEN) {
            String pattern = word.matches("\\w+") ? "\\b" + word + "\\b" : Pattern.quote(word);
            Check.holds("no " + word, !Pattern.compile(pattern).matcher(source).find());
        }
        Check.holds("signs 1 to 127", source.chars().allMatch(c -> c >= 1 && c <= 127));
    }

    /** Rule 9: no loop is without a bound of its own. */
    private static void loops(String source) {
        Check.holds("rule 9: while", !Pattern.compile("while \\((true|1 == 1|!false)").matcher(source).find());
        Check.holds("rule 9: for", !Pattern.compile("for \\([^;)]*;\\s*;").matcher(source).find());
    }

    /** Rules 1 and 2: what is not of the face is private; the classes inside are static, and no other is compiled. */
    private static void members() {
        for (Class<?> c : LeftBehind.class.getDeclaredClasses()) {
            Check.holds("rule 1: " + c + " is not public", (c.getModifiers() & (Modifier.PUBLIC | Modifier.PROTECTED)) == 0);
            Check.due("rule 1: classes inside " + c, c.getDeclaredClasses().length, 0);
        }
        for (Field f : LeftBehind.class.getDeclaredFields()) {
            Check.holds("rule 1: " + f, Modifier.isPrivate(f.getModifiers()) || Modifier.isPublic(f.getModifiers()));
        }
        for (Method m : LeftBehind.class.getDeclaredMethods()) {
            Check.holds("rule 1: " + m, Modifier.isPrivate(m.getModifiers()) || Modifier.isPublic(m.getModifiers()));
        }
        String[] files = Path.of(LeftBehind.class.getProtectionDomain().getCodeSource().getLocation().getPath()).toFile().list();
        long compiled = Arrays.stream(files).filter(f -> f.matches("LeftBehind.*\\.class")).count();
        Check.due("rule 2: classes compiled", compiled, allClasses().size());
    }

    /** Rules 3 and 5: the types of fields, arguments and answers. */
    private static void types() {
        for (Class<?> c : allClasses()) {
            for (Field f : c.getDeclaredFields()) {
                Check.holds("rule 3: " + f, isAllowed(f.getType()));
                boolean constant = f.getType() == int.class || f.getType() == long.class || f.getType() == String.class;
                Check.holds("rule 5: " + f, constant || !Modifier.isStatic(f.getModifiers()));
            }
            for (Method m : c.getDeclaredMethods()) {
                Check.holds("rule 3: " + m, m.getReturnType() == void.class || isAllowed(m.getReturnType()));
                Check.holds("rule 3: " + m, Arrays.stream(m.getParameterTypes()).allMatch(LanguageTests::isAllowed));
            }
        }
    }

    private static boolean isAllowed(Class<?> type) {
        boolean own = type.getName().startsWith("LeftBehind");
        if (type.isArray()) {
            Class<?> of = type.getComponentType();
            return of.isPrimitive() || of.getName().startsWith("LeftBehind");
        }
        return own || type.isPrimitive() || type == String.class;
    }

    private static void classes() {
        Class<?>[] inside = LeftBehind.class.getDeclaredClasses();
        Check.holds("twelve classes at most", inside.length + 1 <= 12);
        List<Class<?>> all = new ArrayList<>(Arrays.asList(inside));
        all.add(LeftBehind.class);
        for (Class<?> c : all) {
            long own = Arrays.stream(c.getDeclaredFields()).filter(f -> !Modifier.isStatic(f.getModifiers())).count();
            Check.holds(c + " has twenty fields at most", own <= 20);
            boolean fixed = Arrays.stream(c.getDeclaredFields())
                .filter(f -> Modifier.isStatic(f.getModifiers())).allMatch(f -> Modifier.isFinal(f.getModifiers()));
            Check.holds(c + " has no static state", fixed);
        }
    }

    private static void methods(String source) {
        int began = 0;
        String name = "";
        String[] lines = source.split("\n");
        for (int i = 0; i < lines.length; i++) {
            if (lines[i].matches("( {4}){1,2}(public |private |static )*[\\w\\[\\]]+ ?\\w*\\(.*\\) \\{")) {
                began = i;
                name = lines[i].trim();
            }
            if (lines[i].matches("( {4}){1,2}\\}")) {
                Check.holds(name + " is short", i - began <= 60);
            }
        }
    }

    /** Rows are made by constructors alone: no call makes an object. */
    private static void objects(String source) {
        Matcher made = Pattern.compile("[^\n]*\\bnew\\b[^\n]*").matcher(source);
        while (made.find()) {
            String line = made.group().trim();
            boolean inConstructor = line.startsWith("images[i] =") || line.startsWith("this.cells =");
            Check.holds("made by a constructor: " + line, inConstructor || line.matches("(private )?final .*"));
        }
        Check.holds("nor a copy", !source.contains("clone()") && !source.contains("Arrays."));
    }

    private static List<Class<?>> allClasses() {
        List<Class<?>> all = new ArrayList<>(Arrays.asList(LeftBehind.class.getDeclaredClasses()));
        all.add(LeftBehind.class);
        return all;
    }

    /** Rule 4: what of the library is called. */
    private static void library() throws IOException {
        for (Class<?> c : allClasses()) {
            for (String called : new Bytecode(c).called()) {
                boolean own = called.startsWith("LeftBehind");
                Check.holds("rule 4: " + c.getName() + " calls " + called, own || called.matches(LIBRARY));
            }
        }
    }

    /** Rules 8 and 11: calls go at most eight deep, the public method counted, and none calls itself. */
    private static void depth() throws IOException {
        Map<String, List<String>> calls = new TreeMap<>();
        for (Class<?> c : allClasses()) {
            calls.putAll(new Bytecode(c).calls());
        }
        Check.holds("the face's calls are seen", calls.containsKey("LeftBehind.read()I"));
        for (String method : calls.keySet()) {
            int deep = depth(calls, method, 1);
            Check.holds("rule 11: " + method + " goes " + deep + " deep", deep <= 8);
        }
    }

    private static int depth(Map<String, List<String>> calls, String method, int above) {
        int deepest = above;
        if (above > 8) {
            return deepest;
        }
        for (String called : calls.getOrDefault(method, List.of())) {
            if (calls.containsKey(called)) {
                deepest = Math.max(deepest, depth(calls, called, above + 1));
            }
        }
        return deepest;
    }

    /** Rule 12, and README.md: what one object takes of the room; calls take no more of it. */
    private static void room() throws IllegalAccessException {
        LeftBehind x = Edge.crowded();
        Check.due("objects and arrays of one", roomOf(x)[0], 69);
        Check.due("fields and elements of one", roomOf(x)[1], 1339);
    }

    static int[] roomOf(Object root) throws IllegalAccessException {
        Map<Object, Boolean> met = new IdentityHashMap<>();
        ArrayDeque<Object> open = new ArrayDeque<>(List.of(root));
        int cells = 0;
        while (!open.isEmpty()) {
            Object next = open.pop();
            if (met.put(next, true) == null) {
                cells += next.getClass().isArray() ? Array.getLength(next) : instanceFields(next).size();
                open.addAll(partsOf(next));
            }
        }
        return new int[] {met.size(), cells};
    }

    private static List<Field> instanceFields(Object of) {
        return Arrays.stream(of.getClass().getDeclaredFields()).filter(f -> !Modifier.isStatic(f.getModifiers())).toList();
    }

    private static List<Object> partsOf(Object of) throws IllegalAccessException {
        List<Object> parts = new ArrayList<>();
        if (of instanceof Object[] row) {
            parts.addAll(Arrays.asList(row));
        } else if (!of.getClass().isArray()) {
            for (Field f : instanceFields(of)) {
                f.setAccessible(true);
                if (!f.getType().isPrimitive()) {
                    parts.add(f.get(of));
                }
            }
        }
        return parts;
    }
}
