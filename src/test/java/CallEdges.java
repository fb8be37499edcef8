/** Promises 8 to 12, sentence by sentence: calls, boards, undo, of, about. */
final class CallEdges extends Edge {
    private CallEdges() {
    }

    static void run() {
        at("Promise 8: calls");
        calls();
        at("Promise 9: boards");
        boards();
        at("Terms");
        whatIsUndone();
        eightAtMost();
        whatForgetsSteps();
        at("Promise 10: undo");
        undo();
        at("Promise 11: of");
        of();
        at("Promise 12: about");
        about();
    }

    private static void calls() {
        test("A CALL: who is left.", "man 0, man 7", () -> {
            LeftBehind x = plain(aboard(8, 9, 9, 9, 9, 9, 9, 7));
            due("7", x.calls(0), 7);
            due("0", x.calls(0), 0);
        });
        test("A CALL: who is left.", "the first ship, the last", () -> {
            LeftBehind x = plain(aboard(1), aboard(1), aboard(1));
            due("the last", x.calls(2), 2);
            due("the first", x.calls(0), 0);
        });
        test("A CALL: who is left.", "the last of all aboard", () -> {
            LeftBehind x = plain(aboard(5));
            due("he", x.calls(0), 0);
            due("aboard", x.about(0, 2), 0);
            due("calls", x.about(0, 1), 1);
        });
        String words = "BAD; NO: nobody is ABOARD.";
        test(words, "ship -1, and the one behind the last", () -> bad(Edge::busy, x -> x.calls(-1), x -> x.calls(2),
            x -> x.calls(LOWEST), x -> x.calls(HIGHEST)));
        test(words, "ship 3 where there are three", () -> bad(Edge::crowded, x -> x.calls(3)));
        test(words, "ship 0 where there is none", () -> bad(Edge::bare, x -> x.calls(0)));
        test(words, "nobody ever was", () -> no(() -> manned(0, 0), x -> x.calls(0)));
        test(words, "they all were left", () -> no(Edge::busy, x -> x.calls(1)));
    }

    private static void boards() {
        String many = "BOARDING: how many are ABOARD then.";
        test(many, "one", () -> due(busy().boards(1, 1), 1));
        test(many, "three, and on the island one less", () -> {
            LeftBehind x = busy();
            due("aboard", x.boards(0, 3), 3);
            due("on the island", x.count(2), 1);
        });
        test(many, "eight", () -> {
            LeftBehind x = manned(0, 7);
            x.man(0, 9, NONE);
            due(x.boards(0, 7), 8);
        });
        test(many, "aboard her, not aboard all", () -> {
            LeftBehind x = plain(aboard(1, 1), aboard(1));
            x.man(0, 1, NONE);
            due(x.boards(1, 3), 2);
        });
        String words = "BAD; NO: he is not on THE ISLAND.";
        test(words, "ship -1, and the one behind the last", () -> bad(Edge::busy, x -> x.boards(-1, 1), x -> x.boards(2, 1),
            x -> x.boards(LOWEST, 1), x -> x.boards(HIGHEST, 1)));
        test(words, "man -1, and the one behind the last", () -> bad(Edge::busy, x -> x.boards(0, -1), x -> x.boards(0, 4),
            x -> x.boards(0, LOWEST), x -> x.boards(0, HIGHEST)));
        test(words, "ship 3 of three, man 8 of eight", () -> bad(Edge::crowded, x -> x.boards(3, 2), x -> x.boards(0, 8)));
        test(words, "a bad ship and a man who is aboard", () -> bad(Edge::busy, x -> x.boards(2, 0), x -> x.boards(-1, 2)));
        test(words, "aboard her", () -> no(Edge::busy, x -> x.boards(0, 0), x -> x.boards(0, 2)));
        test(words, "aboard another", () -> no(Edge::busy, x -> x.boards(1, 0), x -> x.boards(1, 2)));
    }

    /** One ship; man 0, of skill 1, always is who is left and who boards again. */
    private static LeftBehind steps(int many) {
        LeftBehind x = plain(aboard(1, 9));
        for (int i = 0; i < many; i++) {
            if (i % 2 == 0) {
                x.calls(0);
            } else {
                x.boards(0, 0);
            }
        }
        return x;
    }

    private static void whatIsUndone() {
        String words = "UNDO: where MEN are, CALLS as ahead of the last CALL, BOARDING";
        test(words, "a call", () -> {
            LeftBehind x = plain(aboard(5, 4), aboard(3));
            x.calls(0);
            x.undo();
            due("he is aboard", x.of(1, 2), 0);
            due("calls", x.about(0, 1), 0);
        });
        test(words, "a boarding", () -> {
            LeftBehind x = busy();
            x.boards(1, 3);
            x.undo();
            due("he is on the island", x.of(3, 2), NONE);
            due("calls", x.about(1, 1), 1);
        });
        test(words, "a call at 98 and a call at 99", () -> {
            LeftBehind x = manBehind(0, 5, 98);
            x.calls(0);
            x.undo();
            due("98", x.about(0, 1), 98);
            goOn(x, 0, 0, 2);
            due("99", x.about(0, 1), 99);
            x.undo();
            x.undo();
            due("99 still", x.about(0, 1), 99);
            due("he is aboard", x.of(0, 2), 0);
        });
        test(words, "the last of two ships alone", () -> {
            LeftBehind x = plain(aboard(5), aboard(4));
            x.calls(0);
            x.calls(1);
            x.undo();
            due("hers", x.about(1, 1), 0);
            due("the other's", x.about(0, 1), 1);
            due("the other's man", x.of(0, 2), NONE);
        });
        test(words, "step by step, each ahead of the last that is not undone", () -> {
            LeftBehind x = steps(4);
            for (int left = 3; left >= 0; left--) {
                x.undo();
                due("steps", x.count(8), left);
                due("where he is", x.of(0, 2), left % 2 == 0 ? 0 : NONE);
                due("calls", x.about(0, 1), (left + 1) / 2);
            }
        });
        test(words, "what was seen, noted, marked, the text and the fraction stay", () -> {
            LeftBehind x = busy();
            int steps = x.count(8);
            for (int i = 0; i < steps; i++) {
                x.undo();
            }
            due("rows", 100 * x.count(5) + 10 * x.count(6) + x.count(7), 221);
            due("text", x.count(9), 34);
            due("fraction", 10 * x.part(0) + x.part(1), 12);
        });
    }

    private static void eightAtMost() {
        String words = "(8 at most; behind a SHIP, a MAN that comes none may be).";
        test(words, "none, one, seven, eight", () -> {
            due("none", steps(0).count(8), 0);
            due("one", steps(1).count(8), 1);
            due("seven", steps(7).count(8), 7);
            due("eight", steps(8).count(8), 8);
        });
        test(words, "of nine the first is dropped", () -> {
            LeftBehind x = steps(9);
            due("steps", x.count(8), 8);
            for (int i = 0; i < 8; i++) {
                due("on the island", x.undo(), i % 2 == 0 ? 0 : 1);
            }
            due("one more", x.undo(), NO);
            due("the first call stands", x.about(0, 1), 1);
            due("and who was left by it", x.of(0, 2), NONE);
        });
        test(words, "of many the last eight", () -> {
            LeftBehind x = steps(40);
            for (int i = 0; i < 8; i++) {
                x.undo();
            }
            due("one more", x.undo(), NO);
            due("calls", x.about(0, 1), 16);
        });
        test(words, "eight again behind eight undone", () -> {
            LeftBehind x = steps(8);
            for (int i = 0; i < 8; i++) {
                x.undo();
            }
            x.calls(0);
            due("steps", x.count(8), 1);
        });
    }

    private static void whatForgetsSteps() {
        String words = "(8 at most; behind a SHIP, a MAN that comes none may be).";
        test(words, "behind a ship", () -> {
            LeftBehind x = steps(8);
            x.ship(0);
            due("steps", x.count(8), 0);
            due("undo", x.undo(), NO);
        });
        test(words, "behind a man aboard, behind a man on the island", () -> {
            LeftBehind x = steps(8);
            x.man(0, 1, 0);
            due("aboard", x.undo(), NO);
            LeftBehind y = steps(1);
            y.man(0, 1, NONE);
            due("on the island", y.undo(), NO);
        });
        test(words, "behind a ship or a man that is refused they may be", () -> {
            LeftBehind x = steps(8);
            x.ship(6);
            x.man(0, 0, 0);
            x.man(0, 1, 1);
            due("steps", x.count(8), 8);
            LeftBehind y = crowded();
            y.ship(0);
            y.man(0, 1, 0);
            due("steps of a full island", y.count(8), 8);
            due("undo", y.undo(), 3);
        });
        test(words, "what is refused is no step", () -> {
            LeftBehind x = steps(1);
            x.boards(0, 1);
            x.boards(1, 0);
            x.calls(1);
            due("steps", x.count(8), 1);
        });
    }

    private static void undo() {
        String many = "UNDO: how many are on THE ISLAND then.";
        test(many, "none", () -> due(steps(1).undo(), 0));
        test(many, "all eight", () -> {
            LeftBehind x = bare();
            x.ship(0);
            for (int m = 0; m < 8; m++) {
                x.man(0, 1, NONE);
            }
            x.boards(0, 7);
            due(x.undo(), 8);
        });
        test(many, "one, two, one, two", () -> {
            LeftBehind x = busy();
            due("the call of ship 0", x.undo(), 1);
            due("the boarding of man 2", x.undo(), 2);
            due("the call of ship 1", x.undo(), 1);
            due("the boarding of man 0", x.undo(), 2);
        });
        String words = "NO: none may be.";
        test(words, "at first", () -> no(Edge::bare, x -> x.undo()));
        test(words, "they all were undone", () -> no(() -> {
            LeftBehind x = steps(1);
            x.undo();
            return x;
        }, x -> x.undo()));
        test(words, "behind eight undone of ten", () -> no(() -> {
            LeftBehind x = steps(10);
            for (int i = 0; i < 8; i++) {
                x.undo();
            }
            return x;
        }, x -> x.undo()));
    }

    private static void of() {
        String words = "Of a MAN: KIND (0), SKILL (1), the SHIP (2; NONE: THE ISLAND), LIKED (3; on THE ISLAND NONE).";
        test(words, "of one aboard", () -> {
            LeftBehind x = busy();
            due("kind", x.of(2, 0), 2);
            due("skill", x.of(2, 1), 9);
            due("ship", x.of(2, 2), 0);
            due("liked", x.of(2, 3), 7);
        });
        test(words, "of one on the island", () -> {
            LeftBehind x = busy();
            due("kind", x.of(3, 0), 4);
            due("skill", x.of(3, 1), 5);
            due("the island", x.of(3, 2), NONE);
            due("liked", x.of(3, 3), NONE);
        });
        test(words, "liked by 0 is not NONE", () -> due(manBehind(4, 9, 0).of(0, 3), 0));
        test(words, "of man 7", () -> due(crowded().of(7, 0), 1));
        test(words, "nothing is changed", () -> looksOnly(Edge::busy, x -> x.of(0, 0), x -> x.of(0, 1), x -> x.of(0, 2),
            x -> x.of(0, 3), x -> x.of(3, 2), x -> x.of(3, 3)));
        test("BAD.", "man -1, and the one behind the last", () -> bad(Edge::busy, x -> x.of(-1, 0), x -> x.of(4, 0),
            x -> x.of(LOWEST, 0), x -> x.of(HIGHEST, 0)));
        test("BAD.", "man 8 of eight", () -> bad(Edge::crowded, x -> x.of(8, 0)));
        test("BAD.", "what -1 and 4", () -> bad(Edge::busy, x -> x.of(0, -1), x -> x.of(0, 4), x -> x.of(0, LOWEST),
            x -> x.of(0, HIGHEST)));
        test("BAD.", "a bad what of one on the island", () -> bad(Edge::busy, x -> x.of(3, -1), x -> x.of(3, 4)));
    }

    private static void about() {
        String words = "Of a SHIP: KIND (0), CALLS (1), MEN ABOARD (2; bits), SKILLS of these together (3).";
        test(words, "of one with two aboard", () -> {
            LeftBehind x = busy();
            due("kind", x.about(0, 0), 1);
            due("calls", x.about(0, 1), 2);
            due("men", x.about(0, 2), 5);
            due("skills", x.about(0, 3), 15);
        });
        test(words, "of one with nobody aboard", () -> {
            LeftBehind x = busy();
            due("kind", x.about(1, 0), 5);
            due("calls", x.about(1, 1), 1);
            due("men", x.about(1, 2), 0);
            due("skills", x.about(1, 3), 0);
        });
        test(words, "all eight of skill 9 aboard", () -> {
            LeftBehind x = plain(aboard(9, 9, 9, 9, 9, 9, 9, 9));
            due("men", x.about(0, 2), 255);
            due("skills", x.about(0, 3), 72);
        });
        test(words, "man 0 alone, man 7 alone", () -> {
            LeftBehind x = plain(aboard(9), aboard(1, 1, 1, 1, 1, 1), aboard(2));
            due("0", x.about(0, 2), 1);
            due("7", x.about(2, 2), 128);
        });
        test(words, "nothing is changed", () -> looksOnly(Edge::busy, x -> x.about(0, 0), x -> x.about(0, 1),
            x -> x.about(0, 2), x -> x.about(0, 3)));
        test("BAD.", "ship -1, and the one behind the last", () -> bad(Edge::busy, x -> x.about(-1, 0), x -> x.about(2, 0),
            x -> x.about(LOWEST, 0), x -> x.about(HIGHEST, 0)));
        test("BAD.", "ship 3 of three", () -> bad(Edge::crowded, x -> x.about(3, 0)));
        test("BAD.", "what -1 and 4", () -> bad(Edge::busy, x -> x.about(0, -1), x -> x.about(0, 4), x -> x.about(0, LOWEST),
            x -> x.about(0, HIGHEST)));
    }
}
