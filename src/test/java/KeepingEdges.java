import java.math.BigInteger;
import java.util.ArrayList;
import java.util.List;

/** Promises 33 to 38, and their terms, sentence by sentence: part, image, from, status, count, digest. */
final class KeepingEdges extends Edge {
    private KeepingEdges() {
    }

    static void run() {
        at("Terms");
        images();
        imagesKeepRows();
        imagesKeepNot();
        imagesKeepSteps();
        status();
        at("Promise 33: part");
        part();
        at("Promise 34: image");
        image();
        at("Promise 35: from");
        from();
        at("Promise 36: status");
        statusOf();
        at("Promise 37: count");
        count();
        countAtMost();
        at("Promise 38: digest");
        digest();
    }

    private static LeftBehind keptFull() {
        LeftBehind x = crowded();
        x.image(0);
        x.island();
        x.image(1);
        return x;
    }

    private static void images() {
        String words = "IMAGES 0, 1 keep all but them, THE TEXT, THE FRACTION and STATUS;";
        test(words, "a full island comes back whole", () -> {
            LeftBehind x = keptFull();
            LeftBehind twin = crowded();
            twin.image(0);
            x.from(0);
            x.image(1);
            twin.image(1);
            alike("as it was", x, twin);
        });
        test(words, "an empty island comes back empty", () -> {
            LeftBehind x = keptFull();
            x.from(0);
            x.from(1);
            for (int what = 0; what <= 8; what++) {
                due("count " + what, x.count(what), 0);
            }
            due("ships begin anew", x.ship(0), 0);
        });
        test(words, "0 and 1 are two", () -> {
            LeftBehind x = manned(0, 1);
            x.image(0);
            x.man(0, 9, NONE);
            x.image(1);
            x.man(0, 9, NONE);
            x.from(0);
            due("0", x.count(0), 1);
            x.from(1);
            due("1", x.count(0), 2);
        });
        test(words, "a later image takes the place of the one ahead of it", () -> {
            LeftBehind x = manned(0, 1);
            x.image(0);
            x.island();
            x.image(0);
            x.ship(0);
            x.from(0);
            due(x.count(0) + x.count(1), 0);
        });
    }

    private static void imagesKeepRows() {
        String words = "IMAGES 0, 1 keep all but them, THE TEXT, THE FRACTION and STATUS;";
        test(words, "each row as it was, though others took its place", () -> {
            LeftBehind x = crowded();
            long kept = x.digest();
            for (int what = 0; what <= 2; what++) {
                x.forget(what);
            }
            for (int i = 0; i < 6; i++) {
                x.seen(7, 77, 7, 1);
                x.note(2, 7, 7, 77);
                x.mark(7, 7, 77, 7);
            }
            goOn(x, 1, x.left(1), 4);
            x.from(0);
            due("seen, notes, marks", x.digest(), kept);
            LeftBehind twin = crowded();
            for (int i = 0; i < 8; i++) {
                due("undo " + i, x.undo(), twin.undo());
                due("digest " + i, x.digest(), twin.digest());
            }
        });
        test(words, "rows shorter than those that they take the place of, and longer", () -> {
            LeftBehind x = crowded();
            x.forget(0);
            x.seen(0, 0, 4, 1);
            x.image(1);
            x.from(0);
            due("five", x.count(5), 5);
            x.from(1);
            due("one", x.count(5), 1);
            due("and no more of them", x.skilled(1, 0), 9);
        });
    }

    private static void imagesKeepNot() {
        String words = "IMAGES 0, 1 keep all but them, THE TEXT, THE FRACTION and STATUS;";
        test(words, "not images: the other one stays as it is now", () -> {
            LeftBehind x = manned(0, 1);
            x.image(0);
            x.man(0, 9, NONE);
            x.image(1);
            x.from(0);
            due("1 is kept still", x.from(1), 1);
            due("its men", x.count(0), 2);
        });
        test(words, "not the text", () -> {
            LeftBehind x = bare();
            type(x, "island;");
            x.image(0);
            type(x, "ship 0;");
            x.from(0);
            due("how long", x.count(9), 14);
            due("items", x.read(), 2);
            x.clear();
            x.from(0);
            due("none", x.count(9), 0);
        });
        test(words, "not the fraction", () -> {
            LeftBehind x = manned(0, 8);
            x.lots(0, 2);
            x.image(0);
            x.lots(0, 6);
            x.from(0);
            due(10 * x.part(0) + x.part(1), 34);
        });
        test(words, "not status", () -> {
            LeftBehind x = crowded();
            x.ship(6);
            x.image(0);
            x.ship(6);
            x.ship(0);
            x.boards(0, 0);
            x.from(0);
            due(100 * x.status(0) + 10 * x.status(1) + x.status(2), 211);
        });
        test(words, "what comes behind an image does not touch it", () -> {
            LeftBehind x = busy();
            x.image(1);
            long kept = x.digest();
            x.calls(0);
            x.boards(1, 1);
            x.seen(0, 0, 0, 0);
            x.forget(1);
            x.mark(0, 1, 1, 1);
            x.ship(0);
            x.from(1);
            due("as kept", x.digest(), kept);
        });
    }

    private static void imagesKeepSteps() {
        String words = "what may be undone they keep; it goes on from one.";
        test(words, "eight steps come back, each", () -> {
            LeftBehind x = keptFull();
            x.from(0);
            due("steps", x.count(8), 8);
            LeftBehind twin = crowded();
            for (int i = 0; i < 8; i++) {
                due("step " + i, x.undo(), twin.undo());
                due("digest " + i, x.digest(), twin.digest());
            }
            due("one more", x.undo(), NO);
        });
        test(words, "none come back of an image without", () -> {
            LeftBehind x = manned(0, 2);
            x.image(0);
            x.calls(0);
            x.from(0);
            due("steps", x.count(8), 0);
            due("undo", x.undo(), NO);
        });
        test(words, "undoing, and a ship behind it, do not touch the image", () -> {
            LeftBehind x = manned(0, 2);
            x.calls(0);
            x.image(0);
            x.undo();
            x.from(0);
            due("a step again", x.count(8), 1);
            x.ship(0);
            x.from(0);
            due("and again", x.undo(), 0);
        });
        test(words, "to keep an image, to go on from one, is no step", () -> {
            LeftBehind x = manned(0, 2);
            x.calls(0);
            x.image(0);
            due("kept", x.count(8), 1);
            x.from(0);
            due("gone on", x.count(8), 1);
        });
        test(words, "it goes on: calls and boardings behind it are steps as ever", () -> {
            LeftBehind x = crowded();
            x.from(0);
            x.boards(0, 2);
            due("eight still", x.count(8), 8);
            due("the last of them is undone", x.undo(), 2);
        });
    }

    private static void status() {
        String words = "STATUS: how many calls were refused as BAD, NO, FULL (each answer told so below is such a one).";
        test(words, "none at first, and none by what is answered", () -> {
            LeftBehind x = crowded();
            due(x.status(0) + x.status(1) + x.status(2), 0);
        });
        test(words, "each alone", () -> {
            LeftBehind x = crowded();
            x.ship(6);
            due("BAD", 100 * x.status(0) + 10 * x.status(1) + x.status(2), 100);
            x.boards(0, 0);
            due("NO", 100 * x.status(0) + 10 * x.status(1) + x.status(2), 110);
            x.ship(0);
            due("FULL", 100 * x.status(0) + 10 * x.status(1) + x.status(2), 111);
        });
        test(words, "answers below 0 that are none: NONE, -6, a fault", () ->
            looksOnly(Edge::busy, x -> x.left(1), x -> x.behind(0, 8), x -> x.few(72, NONE), x -> x.of(3, 2), x -> x.of(3, 3),
                x -> x.crew(1, 0)));
        test(words, "a fault", () -> changesNothing(() -> typed("!"), -10, x -> x.read()));
        test(words, "each of 500", () -> {
            LeftBehind x = bare();
            for (int i = 0; i < 500; i++) {
                x.undo();
            }
            due(x.status(1), 500);
        });
    }

    private static void part() {
        String words = "THE FRACTION: above (0), below (1).";
        test(words, "at first", () -> {
            due("above", bare().part(0), 0);
            due("below", bare().part(1), 1);
        });
        test(words, "7 of 8", () -> {
            LeftBehind x = manned(0, 8);
            x.lots(0, 7);
            due("above", x.part(0), 7);
            due("below", x.part(1), 8);
        });
        test(words, "nothing is changed", () -> looksOnly(Edge::busy, x -> x.part(0), x -> x.part(1)));
        test("BAD.", "what -1 and 2", () -> bad(Edge::busy, x -> x.part(-1), x -> x.part(2), x -> x.part(LOWEST), x -> x.part(HIGHEST)));
    }

    private static void image() {
        String words = "An IMAGE is kept: 1.";
        test(words, "0 and 1, of nothing", () -> {
            LeftBehind x = bare();
            due("0", x.image(0), 1);
            due("1", x.image(1), 1);
            due("from 0", x.from(0), 1);
            due("from 1", x.from(1), 1);
        });
        test(words, "again", () -> {
            LeftBehind x = busy();
            due("0", x.image(0), 1);
            due("0 again", x.image(0), 1);
        });
        test(words, "what there is stays as it is", () -> {
            LeftBehind x = busy();
            long before = x.digest();
            x.image(1);
            due(x.digest(), before);
        });
        test("BAD.", "-1 and 2", () -> bad(Edge::busy, x -> x.image(-1), x -> x.image(2), x -> x.image(LOWEST), x -> x.image(HIGHEST)));
    }

    private static void from() {
        String words = "It goes on from an IMAGE: 1.";
        test(words, "0 and 1", () -> {
            due("0", crowded().from(0), 1);
            due("1", crowded().from(1), 1);
        });
        test(words, "again and again from one", () -> {
            LeftBehind x = busy();
            for (int i = 0; i < 3; i++) {
                due("from", x.from(0), 1);
                due("men", x.count(0), 2);
                x.man(0, 1, NONE);
            }
        });
        String refused = "BAD; NO: none was kept.";
        test(refused, "-1 and 2", () -> bad(Edge::crowded, x -> x.from(-1), x -> x.from(2), x -> x.from(LOWEST), x -> x.from(HIGHEST)));
        test(refused, "neither was kept", () -> no(Edge::bare, x -> x.from(0), x -> x.from(1)));
        test(refused, "the other was kept", () -> no(Edge::busy, x -> x.from(1)));
        test(refused, "1 alone was kept", () -> no(() -> {
            LeftBehind x = manned(0, 1);
            x.image(1);
            return x;
        }, x -> x.from(0)));
    }

    private static void statusOf() {
        String words = "STATUS: BAD (0), NO (1), FULL (2).";
        test(words, "each", () -> {
            LeftBehind x = crowded();
            for (int i = 0; i < 6; i++) {
                x.ship(i < 3 ? 6 : 0);
                if (i < 2) {
                    x.boards(0, 0);
                }
            }
            due("BAD", x.status(0), 3);
            due("NO", x.status(1), 2);
            due("FULL", x.status(2), 3);
        });
        test(words, "nothing is changed", () -> looksOnly(Edge::busy, x -> x.status(0), x -> x.status(1), x -> x.status(2)));
        test("-1: another what (counts as BAD).", "-1 and 3", () ->
            refused(Edge::busy, -1, 0, x -> x.status(-1), x -> x.status(3), x -> x.status(LOWEST), x -> x.status(HIGHEST)));
    }

    private static void count() {
        String words = "How many: 0 MEN, 1 SHIPS, 2 on THE ISLAND, 3 SKILLS of these together, 4 CALLS of all, 5 SEEN, 6 NOTES, "
            + "7 MARKS, 8 that may be undone, 9 bytes of THE TEXT.";
        test(words, "of nothing", () -> {
            for (int what = 0; what <= 9; what++) {
                due("count " + what, bare().count(what), 0);
            }
        });
        test(words, "of a busy island", () -> {
            int[] due = {4, 2, 2, 7, 3, 2, 2, 1, 4, 34};
            for (int what = 0; what <= 9; what++) {
                due("count " + what, busy().count(what), due[what]);
            }
        });
        test(words, "of a full one", () -> {
            int[] due = {8, 3, 2, 10, 5, 5, 6, 6, 8, 150};
            for (int what = 0; what <= 9; what++) {
                due("count " + what, crowded().count(what), due[what]);
            }
        });
        test(words, "nothing is changed", () -> looksOnly(Edge::busy, x -> x.count(0), x -> x.count(1), x -> x.count(2),
            x -> x.count(3), x -> x.count(4), x -> x.count(5), x -> x.count(6), x -> x.count(7), x -> x.count(8), x -> x.count(9)));
        test("BAD.", "what -1 and 10", () -> bad(Edge::busy, x -> x.count(-1), x -> x.count(10), x -> x.count(LOWEST),
            x -> x.count(HIGHEST)));
    }

    private static void countAtMost() {
        String words = "2 on THE ISLAND, 3 SKILLS of these together, 4 CALLS of all,";
        test(words, "all eight of skill 9", () -> {
            LeftBehind x = bare();
            for (int m = 0; m < 8; m++) {
                x.man(0, 9, NONE);
            }
            due("on the island", x.count(2), 8);
            due("skills", x.count(3), 72);
        });
        test(words, "two ships of 99 calls", () -> {
            LeftBehind x = plain(aboard(1), aboard(1));
            goOn(x, 0, 0, 100);
            goOn(x, 1, 1, 100);
            due(x.count(4), 198);
        });
    }

    private static long folded(List<Long> values) {
        BigInteger h = BigInteger.valueOf(1721);
        for (long v : values) {
            h = h.multiply(BigInteger.valueOf(31)).add(BigInteger.valueOf(v));
        }
        return h.longValue();
    }

    private static List<Long> values(int... told) {
        List<Long> values = new ArrayList<>();
        for (int v : told) {
            values.add((long) v);
        }
        return values;
    }

    /** The values by the calls that tell them, and the rows as they were told. */
    private static List<Long> values(LeftBehind x, int[] rows) {
        List<Long> values = new ArrayList<>();
        for (int what = 0; what <= 9; what++) {
            values.add((long) x.count(what));
        }
        for (int h = 0; h < x.count(1); h++) {
            values.add((long) x.about(h, 0));
            values.add((long) x.about(h, 1));
        }
        for (int m = 0; m < x.count(0); m++) {
            for (int what = 0; what <= 2; what++) {
                values.add((long) x.of(m, what));
            }
        }
        values.addAll(values(rows));
        values.add(x.part(0));
        values.add(x.part(1));
        return values;
    }

    private static void digest() {
        String begin = "h = 1721; then h = 31 h + v for each v: count(0) to count(9);";
        test(begin, "of nothing", () -> due(bare().digest(), folded(values(0, 0, 0, 0, 0, 0, 0, 0, 0, 0, 0, 1))));
        test(begin, "of a text alone", () -> due(typed("!").digest(), folded(values(0, 0, 0, 0, 0, 0, 0, 0, 0, 1, 0, 1))));
        test("of SHIPS KIND, CALLS;", "ship by ship", () -> {
            LeftBehind x = bare();
            x.ship(5);
            x.ship(3);
            due(x.digest(), folded(values(0, 2, 0, 0, 0, 0, 0, 0, 0, 0, 5, 0, 3, 0, 0, 1)));
        });
        test("of MEN KIND, SKILL, SHIP (NONE: -1);", "aboard, and on the island", () -> {
            LeftBehind x = bare();
            x.man(5, 9, NONE);
            due("on the island", x.digest(), folded(values(1, 0, 1, 9, 0, 0, 0, 0, 0, 0, 5, 9, -1, 0, 1)));
            LeftBehind y = manned(2, 1);
            due("aboard", y.digest(), folded(values(1, 1, 0, 0, 0, 0, 0, 0, 0, 0, 2, 0, 0, 1, 0, 0, 1)));
        });
        String rows = "of SEEN m, c, l, left; of NOTES h, d, n, x; of MARKS m, s, c, x; THE FRACTION.";
        test(rows, "one of each", () -> {
            LeftBehind x = manned(2, 1);
            x.mark(0, 8, 7, 6);
            x.note(0, 5, 4, 3);
            x.seen(0, 2, 3, 1);
            x.lots(0, 1);
            due(x.digest(), folded(values(1, 1, 0, 0, 0, 1, 1, 1, 0, 0, 2, 0, 0, 1, 0,
                0, 2, 3, 1, 0, 5, 4, 3, 0, 8, 7, 6, 1, 1)));
        });
        test(rows, "of a full island, where it wraps", () -> {
            int[] told = {0, 0, 0, 0, 1, 1, 1, 1, 2, 2, 2, 0, 3, 3, 3, 1, 4, 4, 4, 0,
                0, 1, 0, 0, 1, 2, 1, 10, 2, 3, 2, 20, 0, 4, 3, 30, 1, 5, 4, 40, 2, 6, 5, 50,
                0, 1, 0, 0, 1, 2, 1, 5, 2, 3, 2, 10, 3, 4, 3, 15, 4, 5, 4, 20, 5, 6, 5, 25};
            due(crowded().digest(), folded(values(crowded(), told)));
        });
        test(rows, "no images, no status, nothing of what may be undone but how many", () -> {
            LeftBehind x = busy();
            long before = x.digest();
            x.image(1);
            x.ship(6);
            x.boards(0, 0);
            due("images and status", x.digest(), before);
        });
        test(rows, "nothing is changed", () -> looksOnly(Edge::busy, x -> x.digest()));
    }
}
