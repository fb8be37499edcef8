import java.io.IOException;
import java.lang.reflect.Method;
import java.lang.reflect.Modifier;
import java.nio.file.Files;
import java.nio.file.Path;
import java.util.ArrayList;
import java.util.Arrays;
import java.util.List;
import java.util.Map;
import java.util.TreeMap;
import java.util.TreeSet;
import java.util.regex.Matcher;
import java.util.regex.Pattern;

/** What of LANGUAGE.md can be seen in the text and in the compiled class. */
final class LanguageTests {
    private static final String FACE = "int island() int ship(int) int man(int,int,int) int type(int) int clear() int read() "
        + "int calls(int) int boards(int,int) int undo() int of(int,int) int about(int,int) int left(int) int needs(int,int) "
        + "int far(int) int behind(int,int) int lasts(int,int) int few(int,int) int crew(int,int) int seen(int,int,int,int) "
        + "int skilled(int,int) int tell(int) int note(int,int,int,int) int mark(int,int,int,int) int forget(int) int is(int) "
        + "int look(int) int kinds(int) int ask(int) int water(int,int,int) int lots(int,int) int centuries(int,int) "
        + "long part(int) int image(int) int from(int) int status(int) int count(int) long digest()";
    private static final String[] FORBIDDEN = {"throw", "throws", "try", "catch", "finally", "synchronized", "assert",
        "import", "package", "instanceof", "->", "::", "System.out", "Random", "Thread", "equals", "hashCode", "toString",
        "record", "enum", "volatile", "native", "var", "protected"};

    private static final String LIBRARY = "java/lang/Object\\.<init>.*|java/lang/Integer\\.bitCount.*|java/lang/Math\\.(min|max|abs)\\(.*"
        + "|java/lang/System\\.arraycopy.*|java/lang/String\\.(length|charAt)\\(.*";

    private LanguageTests() {
    }

    static void run(String path) throws Exception {
        String source = Files.readString(Path.of(path)).replaceAll("(?s)/\\*.*?\\*/", "").replaceAll("//[^\n]*", "");
        face();
        forbidden(source);
        classes();
        methods(source);
        objects(source);
        library();
        depth();
    }

    private static void face() {
        TreeSet<String> due = new TreeSet<>(Arrays.asList(FACE.split("(?<=\\)) ")));
        TreeSet<String> got = new TreeSet<>();
        TreeSet<String> names = new TreeSet<>();
        List<Method> others = new ArrayList<>();
        for (Method m : LeftBehind.class.getDeclaredMethods()) {
            if (Modifier.isPublic(m.getModifiers())) {
                String told = Arrays.toString(Arrays.stream(m.getParameterTypes()).map(Class::getName).toArray());
                got.add(m.getReturnType() + " " + m.getName() + "(" + told.replaceAll("[\\[\\] ]", "") + ")");
                names.add(m.getName());
            } else {
                others.add(m);
            }
        }
        Check.holds("the face: " + got, got.equals(due));
        for (Class<?> c : LeftBehind.class.getDeclaredClasses()) {
            others.addAll(Arrays.asList(c.getDeclaredMethods()));
            Check.holds(c + " is static", Modifier.isStatic(c.getModifiers()));
        }
        for (Method m : others) {
            Check.holds(m + " has a name of its own", !names.contains(m.getName()));
            Check.holds(m + " has seven parameters at most", m.getParameterCount() <= 7);
        }
        Check.due("constructors", LeftBehind.class.getDeclaredConstructors().length, 1);
        Check.due("public fields", LeftBehind.class.getFields().length, 4);
    }

    private static void forbidden(String source) {
        for (String word : FORBIDDEN) {
            String pattern = word.matches("\\w+") ? "\\b" + word + "\\b" : Pattern.quote(word);
            Check.holds("no " + word, !Pattern.compile(pattern).matcher(source).find());
        }
        Check.holds("signs 1 to 127", source.chars().allMatch(c -> c >= 1 && c <= 127));
    }

    private static void classes() {
        Class<?>[] inside = LeftBehind.class.getDeclaredClasses();
        Check.holds("twelve classes at most", inside.length + 1 <= 12);
        List<Class<?>> all = new ArrayList<>(Arrays.asList(inside));
        all.add(LeftBehind.class);
        for (Class<?> c : all) {
            long own = Arrays.stream(c.getDeclaredFields()).filter(f -> !Modifier.isStatic(f.getModifiers())).count();
            Check.holds(c + " has twenty fields at most", own <= 20);
            boolean fixed = Arrays.stream(c.getDeclaredFields())
                .filter(f -> Modifier.isStatic(f.getModifiers())).allMatch(f -> Modifier.isFinal(f.getModifiers()));
            Check.holds(c + " has no static state", fixed);
        }
    }

    private static void methods(String source) {
        int began = 0;
        String name = "";
        String[] lines = source.split("\n");
        for (int i = 0; i < lines.length; i++) {
            if (lines[i].matches("( {4}){1,2}(public |private |static )*[\\w\\[\\]]+ ?\\w*\\(.*\\) \\{")) {
                began = i;
                name = lines[i].trim();
            }
            if (lines[i].matches("( {4}){1,2}\\}")) {
                Check.holds(name + " is short", i - began <= 60);
            }
        }
    }

    /** Rows are made by constructors alone: no call makes an object. */
    private static void objects(String source) {
        Matcher made = Pattern.compile("[^\n]*\\bnew\\b[^\n]*").matcher(source);
        while (made.find()) {
            String line = made.group().trim();
            boolean inConstructor = line.startsWith("images[i] =") || line.startsWith("this.cells =");
            Check.holds("made by a constructor: " + line, inConstructor || line.matches("(private )?final .*"));
        }
        Check.holds("nor a copy", !source.contains("clone()") && !source.contains("Arrays."));
    }

    private static List<Class<?>> allClasses() {
        List<Class<?>> all = new ArrayList<>(Arrays.asList(LeftBehind.class.getDeclaredClasses()));
        all.add(LeftBehind.class);
        return all;
    }

    /** Rule 4: what of the library is called. */
    private static void library() throws IOException {
        for (Class<?> c : allClasses()) {
            for (String called : new Bytecode(c).called()) {
                boolean own = called.startsWith("LeftBehind");
                Check.holds("rule 4: " + c.getName() + " calls " + called, own || called.matches(LIBRARY));
            }
        }
    }

    /** Rules 8 and 11: calls go at most eight deep, the public method counted, and none calls itself. */
    private static void depth() throws IOException {
        Map<String, List<String>> calls = new TreeMap<>();
        for (Class<?> c : allClasses()) {
            calls.putAll(new Bytecode(c).calls());
        }
        Check.holds("the face's calls are seen", calls.containsKey("LeftBehind.read()I"));
        for (String method : calls.keySet()) {
            int deep = depth(calls, method, 1);
            Check.holds("rule 11: " + method + " goes " + deep + " deep", deep <= 8);
        }
    }

    private static int depth(Map<String, List<String>> calls, String method, int above) {
        int deepest = above;
        if (above > 8) {
            return deepest;
        }
        for (String called : calls.getOrDefault(method, List.of())) {
            if (calls.containsKey(called)) {
                deepest = Math.max(deepest, depth(calls, called, above + 1));
            }
        }
        return deepest;
    }
}
