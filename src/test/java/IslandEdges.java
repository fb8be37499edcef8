/** Promises 1 to 7, sentence by sentence: a new object, island, ship, man, type, clear, read. */
final class IslandEdges extends Edge {
    private static final String SHORT = "island;ship 1;man 3 6 0;man 0 2 9;";

    private IslandEdges() {
    }

    static void run() {
        at("Promise 1: A new object");
        newObject();
        at("Promise 2: island");
        island();
        at("Promise 3: ship");
        ship();
        at("Promise 4: man");
        man();
        at("Promise 5: type");
        type();
        at("Promise 6: clear");
        clear();
        at("Promise 7: read");
        read();
    }

    private static void dueCounts(LeftBehind x, int... due) {
        for (int what = 0; what < due.length; what++) {
            due("count " + what, x.count(what), due[what]);
        }
    }

    private static void newObject() {
        String words = "As told; nobody is there.";
        test(words, "nothing is counted", () -> dueCounts(bare(), 0, 0, 0, 0, 0, 0, 0, 0, 0, 0));
        test(words, "no ship, no man to ask about", () -> bad(Edge::bare, x -> x.about(0, 0), x -> x.of(0, 0), x -> x.left(0),
            x -> x.far(0), x -> x.calls(0), x -> x.boards(0, 0), x -> x.skilled(0, 0), x -> x.tell(0), x -> x.is(0),
            x -> x.look(0), x -> x.kinds(0), x -> x.ask(0), x -> x.water(0, 1, 1), x -> x.lots(0, 0)));
        test(words, "nothing to undo, no image", () -> no(Edge::bare, x -> x.undo(), x -> x.from(0), x -> x.from(1)));
        test(words, "the text is empty", () -> due(bare().clear(), 0));
        test(words, "nothing was refused", () -> {
            LeftBehind x = bare();
            for (int what = 0; what <= 2; what++) {
                due("status " + what, x.status(what), 0);
            }
        });
        test(words, "0 by 1", () -> due(10 * bare().part(0) + bare().part(1), 1));
        test(words, "what one does another does not see", () -> {
            LeftBehind x = bare();
            LeftBehind y = crowded();
            y.ship(6);
            due("status", x.status(0), 0);
            alike("beside a full one", x, bare());
        });
    }

    private static void island() {
        String men = "how many MEN there were.";
        test(men, "none", () -> changesNothing(Edge::bare, 0, x -> x.island()));
        test(men, "four, then none", () -> {
            LeftBehind x = busy();
            due("first", x.island(), 4);
            due("again", x.island(), 0);
        });
        test(men, "eight", () -> due(crowded().island(), 8));
        String all = "All as at first";
        test(all, "nothing is counted but the text", () -> {
            LeftBehind x = crowded();
            x.island();
            dueCounts(x, 0, 0, 0, 0, 0, 0, 0, 0, 0, 150);
        });
        test(all, "nothing to undo", () -> no(IslandEdges::emptied, x -> x.undo()));
        test(all, "no ship, no man", () -> bad(IslandEdges::emptied, x -> x.about(0, 0), x -> x.of(0, 0), x -> x.man(0, 1, 0)));
        test(all, "it takes as much as at first", () -> {
            LeftBehind x = emptied();
            fillUp(x);
            dueCounts(x, 8, 3, 0, 0, 0, 5, 6, 6, 0);
            due("calls", x.about(0, 1), 0);
        });
        test(all, "what was seen, noted, marked of others is not said of new ones", () -> {
            LeftBehind x = busy();
            x.island();
            x.ship(0);
            x.man(0, 1, 0);
            due("skills", x.skilled(0, 0), 9);
            due("kinds of ships", x.is(0), 63);
            due("kinds of men", x.kinds(0), 63);
        });
        String but = "(but for IMAGES, THE TEXT, THE FRACTION, STATUS):";
        test(but, "images", () -> {
            LeftBehind x = busy();
            x.image(1);
            long kept = x.digest();
            x.island();
            due("from 1", x.from(1), 1);
            due("it is as kept", x.digest(), kept);
            due("from 0", x.from(0), 1);
            due("its ship", x.about(0, 1), 1);
        });
        test(but, "the text", () -> {
            LeftBehind x = busy();
            x.island();
            due("how long", x.count(9), SHORT.length());
            due("it is read", x.read(), 4);
        });
        test(but, "the fraction", () -> {
            LeftBehind x = busy();
            x.island();
            due(10 * x.part(0) + x.part(1), 12);
        });
        test(but, "status", () -> {
            LeftBehind x = crowded();
            x.ship(6);
            x.calls(0);
            x.calls(0);
            x.ship(0);
            x.island();
            due(100 * x.status(0) + 10 * x.status(1) + x.status(2), 111);
        });
    }

    private static LeftBehind emptied() {
        LeftBehind x = crowded();
        x.island();
        return x;
    }

    private static void fillUp(LeftBehind x) {
        for (int h = 0; h < 3; h++) {
            due("ship", x.ship(0), h);
        }
        for (int m = 0; m < 8; m++) {
            due("man", x.man(0, 9, 2), m);
        }
        for (int i = 1; i <= 6; i++) {
            due("note", x.note(0, 1, 0, 0), i);
            due("mark", x.mark(0, 1, 0, 0), i);
            due("seen", x.seen(0, 0, 0, 0), i <= 5 ? i : FULL);
        }
    }

    private static void ship() {
        test("A SHIP: its number.", "0, 1, 2", () -> {
            LeftBehind x = bare();
            for (int h = 0; h < 3; h++) {
                due("ship", x.ship(5), h);
                due("how many", x.count(1), h + 1);
            }
        });
        test("A SHIP: its number.", "kind 0 and kind 5 are the ends", () -> {
            LeftBehind x = bare();
            x.ship(0);
            x.ship(5);
            due("0", x.about(0, 0), 0);
            due("5", x.about(1, 0), 5);
        });
        test("BAD; FULL: 3.", "kind -1, kind 6, the ends of all numbers", () -> bad(Edge::busy, x -> x.ship(-1), x -> x.ship(6),
            x -> x.ship(LOWEST), x -> x.ship(HIGHEST)));
        test("BAD; FULL: 3.", "a 4th", () -> full(Edge::crowded, x -> x.ship(0), x -> x.ship(5)));
        test("BAD; FULL: 3.", "a 4th of no kind is BAD", () -> bad(Edge::crowded, x -> x.ship(-1), x -> x.ship(6)));
        test("BAD; FULL: 3.", "the 3rd is not", () -> due(busy().ship(0), 2));
    }

    private static void man() {
        String words = "A MAN ABOARD a SHIP, or (NONE) on THE ISLAND: his number.";
        test(words, "aboard the first ship and the last, and on the island", () -> {
            LeftBehind x = busy();
            due("number", x.man(0, 1, 0), 4);
            due("number", x.man(0, 1, 1), 5);
            due("number", x.man(0, 1, NONE), 6);
            due("aboard the first", x.about(0, 2), 1 + 4 + 16);
            due("aboard the last", x.about(1, 2), 32);
            due("on the island", x.of(6, 2), NONE);
        });
        test(words, "kind 0 and 5, skill 1 and 9 are the ends", () -> {
            LeftBehind x = bare();
            due("number", x.man(0, 1, NONE), 0);
            due("number", x.man(5, 9, NONE), 1);
            due("of the first", 10 * x.of(0, 0) + x.of(0, 1), 1);
            due("of the last", 10 * x.of(1, 0) + x.of(1, 1), 59);
        });
        test("BAD; FULL: 8.", "kind -1 and 6", () -> bad(Edge::busy, x -> x.man(-1, 1, 0), x -> x.man(6, 1, 0),
            x -> x.man(LOWEST, 1, 0), x -> x.man(HIGHEST, 1, 0)));
        test("BAD; FULL: 8.", "skill 0 and 10", () -> bad(Edge::busy, x -> x.man(0, 0, 0), x -> x.man(0, 10, 0),
            x -> x.man(0, LOWEST, 0), x -> x.man(0, HIGHEST, 0)));
        test("BAD; FULL: 8.", "ship -2, and the one behind the last", () -> bad(Edge::busy, x -> x.man(0, 1, -2),
            x -> x.man(0, 1, 2), x -> x.man(0, 1, LOWEST), x -> x.man(0, 1, HIGHEST)));
        test("BAD; FULL: 8.", "ship 0 where there is none", () -> bad(Edge::bare, x -> x.man(0, 1, 0)));
        test("BAD; FULL: 8.", "ship 3 where there are three", () -> bad(() -> plain(aboard(), aboard(), aboard()), x -> x.man(0, 1, 3)));
        test("BAD; FULL: 8.", "a 9th", () -> full(Edge::crowded, x -> x.man(0, 1, 0), x -> x.man(5, 9, NONE)));
        test("BAD; FULL: 8.", "a 9th with a bad number is BAD", () -> bad(Edge::crowded, x -> x.man(6, 1, 0), x -> x.man(0, 0, 0),
            x -> x.man(0, 1, -2)));
        test("BAD; FULL: 8.", "the 8th is not", () -> due(manned(0, 7).man(0, 1, 0), 7));
    }

    private static void type() {
        String words = "A byte (0 .. 127) comes behind THE TEXT: how many it has.";
        test(words, "0 and 127", () -> {
            LeftBehind x = bare();
            due("0", x.type(0), 1);
            due("127", x.type(127), 2);
        });
        test(words, "behind it, not ahead of it", () -> {
            LeftBehind x = typed("island");
            due("7th", x.type(';'), 7);
            due("it is read", x.read(), 1);
        });
        test(words, "the 150th", () -> {
            LeftBehind x = typed(padded("", 149));
            due("how many", x.type(32), 150);
            due("counted", x.count(9), 150);
        });
        test(words, "the 150th byte is read", () -> {
            LeftBehind x = typed(padded("island", 149));
            x.type(';');
            due(x.read(), 1);
        });
        test("BAD; FULL.", "-1 and 128", () -> bad(Edge::busy, x -> x.type(-1), x -> x.type(128)));
        test("BAD; FULL.", "what would be a byte if it wrapped", () -> bad(Edge::busy, x -> x.type(256 + ';'), x -> x.type(-128),
            x -> x.type(65536 + ' '), x -> x.type(LOWEST), x -> x.type(HIGHEST)));
        test("BAD; FULL.", "the 151st", () -> full(Edge::crowded, x -> x.type(0), x -> x.type(127), x -> x.type(';')));
        test("BAD; FULL.", "a bad 151st is BAD", () -> bad(Edge::crowded, x -> x.type(-1), x -> x.type(128)));
        test("BAD; FULL.", "the 151st drops nothing", () -> {
            LeftBehind x = crowded();
            x.type('!');
            due(x.read(), 5);
        });
    }

    private static void clear() {
        String words = "THE TEXT is empty: how many it had.";
        test(words, "none", () -> changesNothing(Edge::bare, 0, x -> x.clear()));
        test(words, "one", () -> due(typed("!").clear(), 1));
        test(words, "150", () -> due(crowded().clear(), 150));
        test(words, "none behind it", () -> {
            LeftBehind x = crowded();
            x.clear();
            due("counted", x.count(9), 0);
            due("again", x.clear(), 0);
            due("read", x.read(), -10);
        });
        test(words, "150 come again, and no more", () -> {
            LeftBehind x = crowded();
            x.clear();
            for (int i = 1; i <= 150; i++) {
                due("byte", x.type(i < 7 ? "island".charAt(i - 1) : i < 150 ? ' ' : ';'), i);
            }
            due("one more", x.type(' '), FULL);
            due("read", x.read(), 1);
        });
        test(words, "the island stays as it is", () -> {
            LeftBehind x = busy();
            x.clear();
            IslandEdges.type(x, SHORT);
            alike("the same text typed again", x, busy());
        });
    }

    private static LeftBehind misspelt(LeftBehind x, String text) {
        x.clear();
        Edge.type(x, text);
        return x;
    }

    private static void dueRead(String text, int answer) {
        due("'" + text + "'", typed(text).read(), answer);
    }

    private static void read() {
        String items = "THE ISLAND is read: how many ITEMS (island is one, too).";
        test(items, "one, the least", () -> dueRead("island;", 1));
        test(items, "two", () -> dueRead("island;ship 0;", 2));
        test(items, "twenty, the most that 150 bytes hold", () -> {
            StringBuilder text = new StringBuilder("island;ship0;man0 1 0;");
            for (int i = 0; i < 8; i++) {
                text.append("call0;board0 0;");
            }
            text.append("call0;");
            due("bytes", text.length(), 148);
            dueRead(text.toString(), 20);
            dueRead(padded(text.toString(), 150), 20);
        });
        String fault = "-10 less the FAULT: all stays.";
        test(fault, "place 0, the least", () -> dueRead(";", -10));
        test(fault, "place 149, the last byte", () -> dueRead(padded("island;", 149) + "!", -159));
        test(fault, "150, the length of a full text", () -> dueRead(padded("island;ship", 150), -160));
        test(fault, "all stays, no text", () -> changesNothing(Edge::bare, -10, x -> x.read()));
        test(fault, "all stays, a fault at once", () ->
            changesNothing(() -> misspelt(busy(), "ship 0;"), -10, x -> x.read()));
        test(fault, "all stays, a fault behind a whole island", () ->
            changesNothing(() -> misspelt(busy(), "island;ship 0;man 0 1 0;call 0;call 0;"), -46, x -> x.read()));
        test(fault, "all stays, on a full island", () ->
            changesNothing(() -> misspelt(crowded(), "island;ship 0;ship"), -28, x -> x.read()));
        test(fault, "status does not count it", () -> {
            LeftBehind x = typed("!");
            x.read();
            due(x.status(0) + x.status(1) + x.status(2), 0);
        });
    }
}
