/** Promises 1 to 7: what makes an island. */
final class IslandTests {
    private IslandTests() {
    }

    static void run() {
        newObject();
        island();
        ship();
        man();
        type();
        clear();
        readWhole();
        readFaultsOfShape();
        readFaultsOfSense();
        readTakesThePlace();
    }

    static void type(LeftBehind x, String text) {
        for (int i = 0; i < text.length(); i++) {
            x.type(text.charAt(i));
        }
    }

    static LeftBehind told(String text) {
        LeftBehind x = new LeftBehind();
        type(x, text);
        Check.holds("read of " + text, x.read() > 0);
        return x;
    }

    private static void newObject() {
        LeftBehind x = new LeftBehind();
        for (int what = 0; what <= 9; what++) {
            Check.due("new: count " + what, x.count(what), 0);
        }
        for (int what = 0; what <= 2; what++) {
            Check.due("new: status " + what, x.status(what), 0);
        }
        Check.due("new: above", x.part(0), 0);
        Check.due("new: below", x.part(1), 1);
        Check.due("new: of", x.of(0, 0), LeftBehind.BAD);
        Check.due("new: about", x.about(0, 0), LeftBehind.BAD);
        Check.due("new: undo", x.undo(), LeftBehind.NO);
        Check.due("new: from", x.from(1), LeftBehind.NO);
    }

    private static LeftBehind full() {
        LeftBehind x = told("island;ship 0;man 0 3 0;man 1 4 0;man 0 5 9;");
        x.boards(0, 2);
        x.seen(0, 0, 0, 0);
        x.note(0, 1, 0, 2);
        x.mark(0, 1, 0, 1);
        x.lots(0, 2);
        return x;
    }

    private static void island() {
        LeftBehind x = full();
        x.calls(0);
        x.image(0);
        x.ship(9);
        long kept = x.digest();
        Check.due("island: men there were", x.island(), 3);
        Check.due("island: again", x.island(), 0);
        for (int what = 0; what <= 8; what++) {
            Check.due("island: count " + what, x.count(what), 0);
        }
        Check.due("island: the text stays", x.count(9), 44);
        Check.due("island: the fraction stays", 10 * x.part(0) + x.part(1), 23);
        Check.due("island: status stays", x.status(0), 1);
        Check.due("island: no undo", x.undo(), LeftBehind.NO);
        x.ship(4);
        Check.due("island: calls begin anew", x.about(0, 1), 0);
        Check.due("island: images stay", x.from(0), 1);
        Check.due("island: as before", x.digest(), kept);
    }

    private static void ship() {
        LeftBehind x = new LeftBehind();
        Check.due("ship -1", x.ship(-1), LeftBehind.BAD);
        Check.due("ship 6", x.ship(6), LeftBehind.BAD);
        Check.due("ship 0", x.ship(0), 0);
        x.man(0, 5, 0);
        x.calls(0);
        Check.due("ship: a bad one", x.ship(6), LeftBehind.BAD);
        Check.due("ship: a bad one leaves undo", x.count(8), 1);
        Check.due("ship 5", x.ship(5), 1);
        Check.due("ship: behind one no undo", x.undo(), LeftBehind.NO);
        Check.due("ship 3", x.ship(3), 2);
        Check.due("ship: kind", x.about(1, 0), 5);
        Check.due("ship: calls", x.about(2, 1), 0);
        x.boards(2, 0);
        Check.due("ship: a 4th", x.ship(0), LeftBehind.FULL);
        Check.due("ship: a 4th leaves undo", x.count(8), 1);
        Check.due("ship: bad ahead of full", x.ship(6), LeftBehind.BAD);
        Check.due("ship: how many", x.count(1), 3);
        Check.due("ship: refused as bad", x.status(0), 4);
        Check.due("ship: refused as full", x.status(2), 1);
    }

    private static void man() {
        LeftBehind x = new LeftBehind();
        Check.due("man kind -1", x.man(-1, 1, -1), LeftBehind.BAD);
        Check.due("man kind 6", x.man(6, 1, -1), LeftBehind.BAD);
        Check.due("man skill 0", x.man(0, 0, -1), LeftBehind.BAD);
        Check.due("man skill 10", x.man(0, 10, -1), LeftBehind.BAD);
        Check.due("man no ship", x.man(0, 1, 0), LeftBehind.BAD);
        Check.due("man ship -2", x.man(0, 1, -2), LeftBehind.BAD);
        Check.due("man on the island", x.man(5, 9, -1), 0);
        x.ship(0);
        x.boards(0, 0);
        Check.due("man aboard", x.man(1, 1, 0), 1);
        Check.due("man: behind one no undo", x.undo(), LeftBehind.NO);
        Check.due("man: ship not there", x.man(1, 1, 1), LeftBehind.BAD);
        for (int m = 2; m < 8; m++) {
            Check.due("man " + m, x.man(0, 2, -1), m);
        }
        x.calls(0);
        Check.due("man: a 9th", x.man(0, 1, -1), LeftBehind.FULL);
        Check.due("man: a 9th leaves undo", x.count(8), 1);
        Check.due("man: bad ahead of full", x.man(0, 0, -1), LeftBehind.BAD);
        Check.due("man: how many", x.count(0), 8);
        Check.due("man: refused", 10 * x.status(0) + x.status(2), 81);
    }

    private static void type() {
        LeftBehind x = new LeftBehind();
        Check.due("type -1", x.type(-1), LeftBehind.BAD);
        Check.due("type 128", x.type(128), LeftBehind.BAD);
        Check.due("type 0", x.type(0), 1);
        Check.due("type 127", x.type(127), 2);
        for (int i = 3; i <= 150; i++) {
            Check.due("type " + i, x.type(' '), i);
        }
        Check.due("type: full", x.type(' '), LeftBehind.FULL);
        Check.due("type: bad ahead of full", x.type(128), LeftBehind.BAD);
        Check.due("type: how many", x.count(9), 150);
        Check.due("type: refused", 10 * x.status(0) + x.status(2), 31);
    }

    private static void clear() {
        LeftBehind x = new LeftBehind();
        Check.due("clear: empty", x.clear(), 0);
        type(x, "island;;");
        Check.due("clear: had", x.clear(), 8);
        Check.due("clear: has", x.count(9), 0);
        type(x, "island;");
        Check.due("clear: the old text is gone", x.read(), 1);
    }

    private static long read(String text) {
        LeftBehind x = new LeftBehind();
        type(x, text);
        return x.read();
    }

    private static void reads(String text, long want) {
        Check.due("read of '" + text + "'", read(text), want);
    }

    private static void faults(String text, int place) {
        reads(text, -10 - place);
    }

    private static void readWhole() {
        reads("island;", 1);
        reads("  island  ;  ", 1);
        reads("island;ship0;", 2);
        reads("island;ship 05;man 05 09 00;man 0 1 09;", 4);
        reads("island;ship 5 ;man 5 9 0;call 0;board 0 0;call 0;", 6);
        reads("island;ship 0;ship 1;ship 2;", 4);
        reads("island;man 0 1 9;man 0 1 9;man 0 1 9;man 0 1 9;man 0 1 9;man 0 1 9;man 0 1 9;man 0 1 9;", 9);
        StringBuilder calls = new StringBuilder("island;ship0;man0 1 0;");
        for (int i = 0; i < 8; i++) {
            calls.append("call0;board0 0;");
        }
        reads(calls + "call0; ", 20);
        LeftBehind x = told("island;ship 4;ship 2;man 1 2 0;man 0 9 1;man 3 5 9;call 1;board 0 1;");
        Check.due("read: ships", 10 * x.about(0, 0) + x.about(1, 0), 42);
        Check.due("read: calls", 10 * x.about(0, 1) + x.about(1, 1), 1);
        Check.due("read: aboard", x.about(0, 2), 3);
        Check.due("read: on the island", x.of(2, 2), LeftBehind.NONE);
        Check.due("read: kind and skill", 10 * x.of(2, 0) + x.of(2, 1), 35);
        Check.due("read: no undo", x.count(8), 0);
    }

    private static void readFaultsOfShape() {
        faults("", 0);
        faults(" ", 1);
        faults("isl", 0);
        faults("islands;", 0);
        faults("jsland;", 0);
        faults("islanz;", 0);
        faults("island;thip 0;", 7);
        faults("Island;", 0);
        faults("ship 0;", 0);
        faults(" ;island;", 1);
        faults("5", 0);
        faults("island", 6);
        faults("island  ", 8);
        faults("island 1;", 7);
        faults("island;;", 7);
        faults("island; island;", 8);
        faults("island;shi", 7);
        faults("island;ships 0;", 7);
        faults("island;ship", 11);
        faults("island;ship  ", 13);
        faults("island;ship;", 11);
        faults("island;ship 0", 13);
        faults("island;ship 0 0;", 14);
        faults("island;ship 000;", 12);
        faults("island;000", 7);
        faults("island;ship a;", 12);
        faults("island;ship -1;", 12);
        faults("island\t;", 6);
        faults("island;\n", 7);
        faults("island;ship 0;man 0 1 0", 23);
        faults("island;man 0 1;", 14);
        faults("island;man 0 001 9;", 13);
        faults("island;call 0man", 12);
    }

    private static void readFaultsOfSense() {
        faults("island;ship 6;", 12);
        faults("island;ship 10;", 12);
        faults("island;ship 0;ship 0;ship 0; ship 0;", 29);
        faults("island;man 6 1 9;", 11);
        faults("island;man 0 0 9;", 13);
        faults("island;man 0 10 9;", 13);
        faults("island;man 0 1 0;", 15);
        faults("island;ship 0;man 0 1 1;", 22);
        faults("island;man 0 1 8;", 15);
        faults("island;man 0 1 10;", 15);
        faults("island;man0 1 9;man0 1 9;man0 1 9;man0 1 9;man0 1 9;man0 1 9;man0 1 9;man0 1 9;man 0 1 9;", 79);
        faults("island;call 0;", 12);
        faults("island;ship 0;call 0;", 19);
        faults("island;ship 0;man 0 1 0;call 0;call 0;", 36);
        faults("island;ship 0;call 1;", 19);
        faults("island;man 0 1 9;board 0 0;", 23);
        faults("island;ship 0;board 0 0;", 22);
        faults("island;ship 0;man 0 1 0;board 0 0;", 32);
        faults("island;ship 0;man 0 1 9;board 0 0;board 0 0;", 42);
        faults("island;ship 0;man 0 1 9;board 1 0;", 30);
        faults("island;ship 0;man 0 1 9;board 0 1;", 32);
    }

    private static void readTakesThePlace() {
        LeftBehind x = full();
        x.image(1);
        x.ship(6);
        long before = x.digest();
        x.type('!');
        Check.due("read: a fault behind 44", x.read(), -54);
        Check.due("read: a fault is not refused", x.status(0) + x.status(1) + x.status(2), 1);
        x.clear();
        type(x, "island;ship 0;man 0 3 0;man 1 4 0;man 0 5 9;");
        Check.due("read: behind a fault all stays", x.digest(), before);
        Check.due("read: items", x.read(), 5);
        Check.due("read: no seen", x.count(5), 0);
        Check.due("read: no notes", x.count(6), 0);
        Check.due("read: no marks", x.count(7), 0);
        Check.due("read: nothing to undo", x.undo(), LeftBehind.NO);
        Check.due("read: the old boarding is gone", x.of(2, 2), LeftBehind.NONE);
        Check.due("read: the text stays", x.count(9), 44);
        Check.due("read: the fraction stays", 10 * x.part(0) + x.part(1), 23);
        Check.due("read: status stays", x.status(0), 1);
        x.from(1);
        Check.due("read: images stay", x.digest(), before);
        x.clear();
        type(x, "island;");
        Check.due("read: an empty island", x.read(), 1);
        Check.due("read: nobody is there", x.count(0) + x.count(1), 0);
    }
}
