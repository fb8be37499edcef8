import java.nio.file.Path;
import java.util.ArrayList;
import java.util.List;
import java.util.function.Supplier;

/**
 * Ground of the tests of the document's sentences that name a boundary case, each a test of its own. A test's name is
 * the section, the sentence's words as they stand there, and what of it is tried.
 */
abstract class Edge {
    static final int NONE = -1, BAD = -2, NO = -3, FULL = -4;
    static final int LOWEST = Integer.MIN_VALUE, HIGHEST = Integer.MAX_VALUE;

    private static Document document;
    private static String section = "";
    private static String name = "";
    private static int tests = 0;

    interface Call {
        long on(LeftBehind x);
    }

    static void document(Path path) throws java.io.IOException {
        document = new Document(path);
    }

    static int tests() {
        return tests;
    }

    static void allIsQuoted() {
        List<String> left = document.unquoted();
        Check.holds("each sentence has a test, but: " + left, left.isEmpty());
    }

    /** The words of a section, on one line; none where the document is not there. */
    static String words(String where) {
        return document.words(where);
    }

    /** Words of the section that tell a story and ask nothing of the class, so that no test can hold them. */
    static void story(String... told) {
        for (String words : told) {
            Check.holds(section + ", \"" + words + "\": the words stand there", document.quote(section, words));
        }
    }

    /** The section of the document that the tests behind this hold. */
    static void at(String where) {
        section = where;
    }

    static void test(String words, String remark, Runnable body) {
        tests++;
        name = section + ", \"" + words + "\", " + remark;
        Check.holds(name + ": the words stand there", document.quote(section, words));
        try {
            body.run();
        } catch (RuntimeException thrown) {
            Check.holds(name + ": no call throws, but " + thrown, false);
        }
    }

    static void due(String what, long got, long want) {
        Check.due(name + ": " + what, got, want);
    }

    static void due(long got, long want) {
        Check.due(name, got, want);
    }

    static void holds(String what, boolean so) {
        Check.holds(name + ": " + what, so);
    }

    static void same(String what, Object got, Object want) {
        Check.holds(name + ": " + what + " is " + got + ", due is " + want, got.equals(want));
    }

    // ---- what is refused

    static void bad(Supplier<LeftBehind> build, Call... calls) {
        refused(build, BAD, 0, calls);
    }

    static void no(Supplier<LeftBehind> build, Call... calls) {
        refused(build, NO, 1, calls);
    }

    static void full(Supplier<LeftBehind> build, Call... calls) {
        refused(build, FULL, 2, calls);
    }

    /** Each call, alone on what is built, answers so, counts once in that status, and changes nothing else. */
    static void refused(Supplier<LeftBehind> build, long answer, int counted, Call... calls) {
        for (int i = 0; i < calls.length; i++) {
            LeftBehind x = build.get();
            LeftBehind twin = build.get();
            due("call " + i, calls[i].on(x), answer);
            for (int what = 0; what <= 2; what++) {
                int more = what == counted ? 1 : 0;
                due("call " + i + ", status " + what, x.status(what), twin.status(what) + more);
            }
            alike("call " + i, x, twin);
        }
    }

    /** Each call, alone on what is built, answers so and changes nothing, status neither. */
    static void changesNothing(Supplier<LeftBehind> build, long answer, Call... calls) {
        refused(build, answer, NONE, calls);
    }

    /** The same, whatever the answer. */
    static void looksOnly(Supplier<LeftBehind> build, Call... calls) {
        for (int i = 0; i < calls.length; i++) {
            changesNothing(build, calls[i].on(build.get()), calls[i]);
        }
    }

    /** All that can be seen of two objects but status is the same; both are used up. */
    static void alike(String what, LeftBehind x, LeftBehind twin) {
        List<Long> seen = everything(x);
        List<Long> want = everything(twin);
        due(what + ", how much there is", seen.size(), want.size());
        for (int i = 0; i < Math.min(seen.size(), want.size()); i++) {
            due(what + ", all that is seen, place " + i, seen.get(i), want.get(i));
        }
    }

    private static List<Long> everything(LeftBehind x) {
        List<Long> seen = new ArrayList<>();
        seen.add(x.digest());
        seen.add(x.part(0));
        seen.add(x.part(1));
        addIsland(x, seen);
        addUndone(x, seen);
        seen.add((long) x.read());
        seen.add(x.digest());
        for (int i = 0; i <= 1; i++) {
            seen.add((long) x.from(i));
            seen.add(x.digest());
            addUndone(x, seen);
        }
        return seen;
    }

    private static void addIsland(LeftBehind x, List<Long> seen) {
        for (int h = 0; h < x.count(1); h++) {
            for (int what = 0; what <= 3; what++) {
                seen.add((long) x.about(h, what));
            }
            seen.add((long) x.left(h));
        }
        for (int m = 0; m < x.count(0); m++) {
            for (int what = 0; what <= 3; what++) {
                seen.add((long) x.of(m, what));
            }
        }
    }

    private static void addUndone(LeftBehind x, List<Long> seen) {
        int steps = x.count(8);
        for (int i = 0; i < steps; i++) {
            seen.add((long) x.undo());
            seen.add(x.digest());
        }
    }

    // ---- islands to try things on

    static void type(LeftBehind x, String text) {
        for (int i = 0; i < text.length(); i++) {
            x.type(text.charAt(i));
        }
    }

    static LeftBehind typed(String text) {
        LeftBehind x = new LeftBehind();
        type(x, text);
        return x;
    }

    static LeftBehind told(String text) {
        LeftBehind x = typed(text);
        Check.holds(name + ": '" + text + "' is read", x.read() > 0);
        return x;
    }

    static String padded(String text, int length) {
        StringBuilder all = new StringBuilder(text);
        while (all.length() < length) {
            all.append(' ');
        }
        return all.toString();
    }

    static LeftBehind bare() {
        return new LeftBehind();
    }

    /**
     * Something of everything, nothing full: two ships (1 has nobody aboard), men 0 and 2 aboard ship 0, men 1 and 3 on
     * the island, four steps that may be undone, image 0 alone.
     */
    static LeftBehind busy() {
        LeftBehind x = told("island;ship 1;man 3 6 0;man 0 2 9;");
        x.note(0, 1, 0, 6);
        x.calls(0);
        x.image(0);
        x.ship(5);
        x.man(2, 9, 1);
        x.man(4, 5, 0);
        x.boards(0, 0);
        x.calls(1);
        x.boards(0, 2);
        x.calls(0);
        x.seen(0, 1, 2, 1);
        x.seen(3, 4, 5, 0);
        x.note(1, 2, 3, 4);
        x.mark(1, 5, 4, 3);
        x.lots(0, 1);
        return x;
    }

    /** All rows full, the text too; men 2 and 6 on the island; both images. */
    static LeftBehind crowded() {
        LeftBehind x = typed(padded("island;ship 2;man 5 9 0;man 1 1 9;call 0;", 150));
        x.ship(0);
        x.ship(3);
        x.ship(4);
        for (int m = 0; m < 8; m++) {
            x.man(m % 6, 9 - m, m % 3);
        }
        x.image(1);
        x.calls(0);
        x.calls(1);
        x.calls(2);
        x.calls(0);
        x.boards(1, 6);
        x.boards(2, 0);
        x.calls(1);
        x.boards(1, 4);
        fillRows(x);
        x.lots(1, 2);
        x.image(0);
        return x;
    }

    private static void fillRows(LeftBehind x) {
        for (int i = 0; i < 6; i++) {
            x.note(i % 3, 1 + i, i, 10 * i);
            x.mark(i, 1 + i, i, 5 * i);
            if (i < 5) {
                x.seen(i, i, i, i % 2);
            }
        }
    }

    /** A ship of the kind with so many men aboard, each plain and of skill 1. */
    static LeftBehind manned(int kind, int men) {
        LeftBehind x = new LeftBehind();
        x.ship(kind);
        for (int m = 0; m < men; m++) {
            x.man(0, 1, 0);
        }
        return x;
    }

    /** A plain ship that has made so many calls, and aboard her, alone, a man of the kind and the skill. */
    static LeftBehind manBehind(int kind, int skill, int calls) {
        LeftBehind x = new LeftBehind();
        x.ship(0);
        x.man(kind, skill, 0);
        goOn(x, 0, 0, calls);
        return x;
    }

    /** So many calls of the ship, on which the man is alone, each with his boarding her again. */
    static void goOn(LeftBehind x, int h, int m, int calls) {
        for (int i = 0; i < calls; i++) {
            x.calls(h);
            x.boards(h, m);
        }
    }

    /** Plain ships and, aboard each, plain men of these skills, ship by ship. */
    static LeftBehind plain(int[]... skills) {
        LeftBehind x = new LeftBehind();
        for (int h = 0; h < skills.length; h++) {
            x.ship(0);
        }
        for (int h = 0; h < skills.length; h++) {
            for (int s : skills[h]) {
                x.man(0, s, h);
            }
        }
        return x;
    }

    static int[] aboard(int... skills) {
        return skills;
    }
}
