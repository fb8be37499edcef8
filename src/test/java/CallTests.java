/** Promises 8 to 12: calls, boarding, undo, and what men and ships are. */
final class CallTests {
    private static final int NONE = LeftBehind.NONE, BAD = LeftBehind.BAD, NO = LeftBehind.NO;

    private CallTests() {
    }

    static void run() {
        calls();
        callsByCallsAhead();
        callsAtMost();
        boards();
        undo();
        undoEight();
        of();
        likedByKinds();
        about();
    }

    private static void calls() {
        LeftBehind x = IslandTests.told("island;ship 0;ship 0;man 0 4 0;man 0 3 0;man 0 3 0;man 0 1 1;");
        Check.due("calls -1", x.calls(-1), BAD);
        Check.due("calls 2", x.calls(2), BAD);
        Check.due("calls: of like ones the least number", x.calls(0), 1);
        Check.due("calls: he is on the island", x.of(1, 2), NONE);
        Check.due("calls: one more", x.about(0, 1), 1);
        Check.due("calls: not of the other", x.about(1, 1), 0);
        Check.due("calls: then", x.calls(0), 2);
        Check.due("calls: at last", x.calls(0), 0);
        Check.due("calls: nobody", x.calls(0), NO);
        Check.due("calls: none more", x.about(0, 1), 3);
        Check.due("calls: refused", 10 * x.status(0) + x.status(1), 21);
    }

    private static void callsByCallsAhead() {
        LeftBehind x = new LeftBehind();
        x.ship(0);
        x.man(4, 9, 0);
        x.man(0, 5, 0);
        x.man(0, 1, -1);
        for (int i = 0; i < 2; i++) {
            Check.due("calls: Cadiz is left at " + i, x.calls(0), 0);
            x.boards(0, 0);
        }
        Check.due("calls: 2 ahead of it", x.calls(0), 0);
        x.boards(0, 0);
        Check.due("calls: 3 ahead of it", x.calls(0), 1);
    }

    private static void callsAtMost() {
        LeftBehind x = new LeftBehind();
        x.ship(0);
        x.man(2, 9, 0);
        for (int i = 1; i <= 101; i++) {
            x.calls(0);
            Check.due("calls: how many behind " + i, x.about(0, 1), Math.min(i, 99));
            x.boards(0, 0);
        }
        Check.due("calls of all", x.count(4), 99);
        x.calls(0);
        x.undo();
        Check.due("undo keeps 99", x.about(0, 1), 99);
        Check.due("the mate aboard again", x.of(0, 2), 0);
    }

    private static void boards() {
        LeftBehind x = IslandTests.told("island;ship 0;ship 1;man 0 4 9;man 0 3 0;man 1 2 9;");
        Check.due("boards ship -1", x.boards(-1, 0), BAD);
        Check.due("boards ship 2", x.boards(2, 0), BAD);
        Check.due("boards man -1", x.boards(0, -1), BAD);
        Check.due("boards man 3", x.boards(0, 3), BAD);
        Check.due("boards: he is aboard", x.boards(1, 1), NO);
        Check.due("boards: two then", x.boards(0, 0), 2);
        Check.due("boards: one then", x.boards(1, 2), 1);
        Check.due("boards: he is aboard there", x.boards(1, 2), NO);
        Check.due("boards: calls as they were", x.count(4), 0);
        Check.due("boards: where", x.of(2, 2), 1);
        Check.due("boards: refused", 10 * x.status(0) + x.status(1), 42);
    }

    private static void undo() {
        LeftBehind x = IslandTests.told("island;ship 0;ship 0;man 0 4 0;man 0 3 0;man 1 2 9;");
        x.calls(0);
        x.boards(1, 1);
        x.calls(1);
        x.boards(0, 2);
        Check.due("undo: that may be", x.count(8), 4);
        Check.due("undo a boarding", x.undo(), 2);
        Check.due("undo: he is on the island", x.of(2, 2), NONE);
        Check.due("undo a call", x.undo(), 1);
        Check.due("undo: he is aboard", x.of(1, 2), 1);
        Check.due("undo: calls", x.about(1, 1), 0);
        Check.due("undo the boarding ahead", x.undo(), 2);
        Check.due("undo the call ahead", x.undo(), 1);
        Check.due("undo: as first", x.about(0, 2), 3);
        Check.due("undo: calls as first", x.count(4), 0);
        Check.due("undo: none", x.undo(), NO);
        Check.due("undo: refused", x.status(1), 1);
    }

    private static void undoEight() {
        LeftBehind x = IslandTests.told("island;ship 0;man 0 4 0;");
        for (int i = 0; i < 10; i++) {
            x.calls(0);
            x.boards(0, 0);
        }
        x.calls(0);
        Check.due("undo: 8 at most", x.count(8), 8);
        for (int i = 0; i < 8; i++) {
            Check.due("undo: " + i, x.undo(), i % 2);
        }
        Check.due("undo: no 9th", x.undo(), NO);
        Check.due("undo: calls ahead of 8", x.about(0, 1), 7);
        Check.due("undo: where he was", x.of(0, 2), NONE);
    }

    private static void of() {
        LeftBehind x = IslandTests.told("island;ship 0;ship 2;man 5 7 1;man 1 2 9;");
        Check.due("of kind", x.of(0, 0), 5);
        Check.due("of skill", x.of(0, 1), 7);
        Check.due("of ship", x.of(0, 2), 1);
        Check.due("of liked", x.of(0, 3), 16);
        Check.due("of ship: the island", x.of(1, 2), NONE);
        Check.due("of liked: on the island", x.of(1, 3), NONE);
        Check.due("of what -1", x.of(0, -1), BAD);
        Check.due("of what 4", x.of(0, 4), BAD);
        Check.due("of man 2", x.of(2, 0), BAD);
        Check.due("of man -1", x.of(-1, 0), BAD);
        Check.due("of: refused", x.status(0), 4);
    }

    /** How liked one of skill 4 of each kind is behind 0 to 9 calls, as the document's words give it. */
    private static void likedByKinds() {
        int[][] due = {
            {4, 4, 4, 4, 4, 4, 4, 4, 4, 4},
            {9, 9, 9, 9, 9, 9, 9, 9, 9, 9},
            {4, 3, 2, 1, 0, 0, 0, 0, 0, 0},
            {9, 9, 18, 18, 18, 18, 18, 18, 18, 18},
            {0, 0, 0, 4, 4, 4, 4, 4, 4, 4},
            {13, 12, 11, 10, 0, 9, 9, 9, 9, 0},
        };
        for (int kind = 0; kind < 6; kind++) {
            LeftBehind x = new LeftBehind();
            x.ship(0);
            x.man(kind, 4, 0);
            for (int c = 0; c < 10; c++) {
                Check.due("liked: kind " + kind + " calls " + c, x.of(0, 3), due[kind][c]);
                x.calls(0);
                x.boards(0, 0);
            }
        }
    }

    private static void about() {
        LeftBehind x = IslandTests.told("island;ship 3;ship 5;man 0 4 1;man 0 3 9;man 1 2 1;man 1 9 0;call 0;");
        Check.due("about kind", x.about(1, 0), 5);
        Check.due("about calls", 10 * x.about(0, 1) + x.about(1, 1), 10);
        Check.due("about men", x.about(1, 2), 5);
        Check.due("about skills", x.about(1, 3), 6);
        Check.due("about men: nobody", x.about(0, 2), 0);
        Check.due("about skills: nobody", x.about(0, 3), 0);
        Check.due("about what -1", x.about(0, -1), BAD);
        Check.due("about what 4", x.about(0, 4), BAD);
        Check.due("about ship 2", x.about(2, 0), BAD);
        Check.due("about ship -1", x.about(-1, 0), BAD);
        Check.due("about: refused", x.status(0), 4);
    }
}
