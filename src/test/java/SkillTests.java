/** Promises 20 to 32: what was seen, noted and marked, what that tells, and chances. */
final class SkillTests {
    private static final int NONE = LeftBehind.NONE, BAD = LeftBehind.BAD, NO = LeftBehind.NO, FULL = LeftBehind.FULL;

    private SkillTests() {
    }

    static void run() {
        seen();
        skilled();
        tell();
        note();
        mark();
        forget();
        isAndLook();
        kindsAndAsk();
        water();
        lots();
        centuries();
    }

    private static void seen() {
        LeftBehind x = IslandTests.told("island;man 0 1 9;man 0 1 9;");
        Check.due("seen man -1", x.seen(-1, 0, 0, 0), BAD);
        Check.due("seen man 2", x.seen(2, 0, 0, 0), BAD);
        Check.due("seen c -1", x.seen(0, -1, 0, 0), BAD);
        Check.due("seen c 100", x.seen(0, 100, 0, 0), BAD);
        Check.due("seen l -1", x.seen(0, 0, -1, 0), BAD);
        Check.due("seen l 31", x.seen(0, 0, 31, 0), BAD);
        Check.due("seen left -1", x.seen(0, 0, 0, -1), BAD);
        Check.due("seen left 2", x.seen(0, 0, 0, 2), BAD);
        Check.due("seen 1", x.seen(0, 99, 30, 1), 1);
        for (int i = 2; i <= 5; i++) {
            Check.due("seen " + i, x.seen(1, 0, 0, 0), i);
        }
        Check.due("seen: full", x.seen(1, 0, 0, 0), FULL);
        Check.due("seen: bad ahead of full", x.seen(2, 0, 0, 0), BAD);
        Check.due("seen: how many", x.count(5), 5);
        Check.due("seen: refused", 10 * x.status(0) + x.status(2), 91);
    }

    private static void dueSkills(LeftBehind x, int m, int many, int least, int greatest) {
        Check.due("skilled: how many", x.skilled(m, 0), many);
        Check.due("skilled: the least", x.skilled(m, 1), least);
        Check.due("skilled: the greatest", x.skilled(m, 2), greatest);
    }

    private static void skilled() {
        LeftBehind x = IslandTests.told("island;man 0 1 9;man 2 1 9;man 5 9 9;");
        dueSkills(x, 0, 9, 1, 9);
        x.seen(0, 0, 4, 1);
        dueSkills(x, 0, 4, 1, 4);
        x.seen(0, 7, 2, 0);
        dueSkills(x, 0, 2, 3, 4);
        dueSkills(x, 1, 9, 1, 9);
        x.seen(1, 3, 0, 1);
        dueSkills(x, 1, 3, 1, 3);
        x.seen(2, 4, 0, 1);
        dueSkills(x, 2, 9, 1, 9);
        x.forget(0);
        x.seen(2, 4, 0, 0);
        dueSkills(x, 2, 0, NONE, NONE);
        dueSkills(x, 0, 9, 1, 9);
        x.seen(0, 0, 8, 0);
        dueSkills(x, 0, 1, 9, 9);
        x.seen(0, 0, 0, 1);
        dueSkills(x, 0, 0, NONE, NONE);
        Check.due("skilled man 3", x.skilled(3, 0), BAD);
        Check.due("skilled man -1", x.skilled(-1, 0), BAD);
        Check.due("skilled what -1", x.skilled(0, -1), BAD);
        Check.due("skilled what 3", x.skilled(0, 3), BAD);
        Check.due("skilled: refused", x.status(0), 4);
    }

    private static void tell() {
        int[] due = {4, 9, 4, 9, 304, 13};
        for (int kind = 0; kind < 6; kind++) {
            LeftBehind x = new LeftBehind();
            x.man(kind, 1, -1);
            Check.due("tell: kind " + kind, x.tell(0), due[kind]);
        }
        LeftBehind x = IslandTests.told("island;man 0 1 9;man 3 1 9;man 5 1 9;");
        x.seen(0, 0, 4, 1);
        Check.due("tell: of 1 to 4", x.tell(0), 2);
        x.seen(0, 0, 2, 0);
        Check.due("tell: of 3 and 4", x.tell(0), 3);
        Check.due("tell: of another", x.tell(1), 9);
        x.seen(0, 0, 3, 0);
        Check.due("tell: of one skill", x.tell(0), 0);
        x.seen(0, 0, 3, 1);
        Check.due("tell: no skill", x.tell(0), NONE);
        x.seen(2, 0, 16, 0);
        Check.due("tell: a captain of 8 and 9", x.tell(2), 17);
        x.man(4, 1, -1);
        x.forget(0);
        x.seen(3, 3, 7, 0);
        Check.due("tell: Cadiz of 8 and 9", x.tell(3), 308);
        Check.due("tell man 4", x.tell(4), BAD);
        Check.due("tell man -1", x.tell(-1), BAD);
        Check.due("tell: refused", x.status(0), 2);
    }

    private static void note() {
        LeftBehind x = IslandTests.told("island;ship 0;");
        Check.due("note ship -1", x.note(-1, 1, 0, 0), BAD);
        Check.due("note ship 1", x.note(1, 1, 0, 0), BAD);
        Check.due("note d 0", x.note(0, 0, 0, 0), BAD);
        Check.due("note d 31", x.note(0, 31, 0, 0), BAD);
        Check.due("note n -1", x.note(0, 1, -1, 0), BAD);
        Check.due("note n 9", x.note(0, 1, 9, 0), BAD);
        Check.due("note x -1", x.note(0, 1, 0, -1), BAD);
        Check.due("note x 100", x.note(0, 1, 0, 100), BAD);
        Check.due("note 1", x.note(0, 1, 0, 0), 1);
        Check.due("note 2", x.note(0, 30, 8, 99), 2);
        for (int i = 3; i <= 6; i++) {
            Check.due("note " + i, x.note(0, 1, 0, 0), i);
        }
        Check.due("note: full", x.note(0, 1, 0, 0), FULL);
        Check.due("note: bad ahead of full", x.note(1, 1, 0, 0), BAD);
        Check.due("note: how many", x.count(6), 6);
        Check.due("note: refused", 10 * x.status(0) + x.status(2), 91);
    }

    private static void mark() {
        LeftBehind x = IslandTests.told("island;man 0 1 9;");
        Check.due("mark man -1", x.mark(-1, 1, 0, 0), BAD);
        Check.due("mark man 1", x.mark(1, 1, 0, 0), BAD);
        Check.due("mark s 0", x.mark(0, 0, 0, 0), BAD);
        Check.due("mark s 10", x.mark(0, 10, 0, 0), BAD);
        Check.due("mark c -1", x.mark(0, 1, -1, 0), BAD);
        Check.due("mark c 100", x.mark(0, 1, 100, 0), BAD);
        Check.due("mark x -1", x.mark(0, 1, 0, -1), BAD);
        Check.due("mark x 41", x.mark(0, 1, 0, 41), BAD);
        Check.due("mark 1", x.mark(0, 1, 0, 0), 1);
        Check.due("mark 2", x.mark(0, 9, 99, 40), 2);
        for (int i = 3; i <= 6; i++) {
            Check.due("mark " + i, x.mark(0, 1, 0, 0), i);
        }
        Check.due("mark: full", x.mark(0, 1, 0, 0), FULL);
        Check.due("mark: bad ahead of full", x.mark(1, 1, 0, 0), BAD);
        Check.due("mark: how many", x.count(7), 6);
        Check.due("mark: refused", 10 * x.status(0) + x.status(2), 91);
    }

    private static void forget() {
        LeftBehind x = IslandTests.told("island;ship 0;man 0 1 9;");
        x.seen(0, 0, 0, 0);
        x.note(0, 1, 0, 0);
        x.note(0, 1, 0, 0);
        x.mark(0, 1, 0, 0);
        x.mark(0, 1, 0, 0);
        x.mark(0, 1, 0, 0);
        Check.due("forget notes", x.forget(1), 2);
        Check.due("forget: what is left", 100 * x.count(5) + 10 * x.count(6) + x.count(7), 103);
        Check.due("forget seen", x.forget(0), 1);
        Check.due("forget marks", x.forget(2), 3);
        Check.due("forget: none left", 100 * x.count(5) + 10 * x.count(6) + x.count(7), 0);
        Check.due("forget again", x.forget(2), 0);
        Check.due("forget -1", x.forget(-1), BAD);
        Check.due("forget 3", x.forget(3), BAD);
        Check.due("forget: refused", x.status(0), 2);
        Check.due("forget: one may come again", x.seen(0, 0, 0, 0), 1);
    }

    private static void dueShipKinds(int d, int n, int needed, int kinds, int look) {
        LeftBehind x = IslandTests.told("island;ship 1;ship 2;");
        x.note(1, d, n, needed);
        String what = " behind a note of " + d + " " + n + " " + needed;
        Check.due("is" + what, x.is(1), kinds);
        Check.due("look" + what, x.look(1), look);
        Check.due("is: the other" + what, x.is(0), 63);
    }

    private static void isAndLook() {
        dueShipKinds(1, 0, 2, 17, 14);
        dueShipKinds(10, 2, 9, 32, 10);
        dueShipKinds(5, 3, 5, 36, 100);
        dueShipKinds(1, 0, 6, 10, 11);
        dueShipKinds(30, 8, 65, 16, 10);
        dueShipKinds(1, 8, 1, 44, 100);
        dueShipKinds(1, 0, 3, 0, NONE);
        LeftBehind x = IslandTests.told("island;ship 0;");
        Check.due("look: all kinds", x.look(0), 10);
        x.note(0, 1, 0, 2);
        x.note(0, 1, 4, 7);
        Check.due("is: all notes are so", x.is(0), 16);
        x.note(0, 1, 4, 2);
        Check.due("is: no kind", x.is(0), 0);
        Check.due("look: no kind", x.look(0), NONE);
        Check.due("is 1", x.is(1), BAD);
        Check.due("is -1", x.is(-1), BAD);
        Check.due("look 1", x.look(1), BAD);
        Check.due("look -1", x.look(-1), BAD);
        Check.due("is, look: refused", x.status(0), 4);
    }

    private static void dueManKinds(int s, int c, int liked, int kinds, int ask) {
        LeftBehind x = IslandTests.told("island;man 1 2 9;man 0 4 9;");
        x.mark(1, s, c, liked);
        String what = " behind a mark of " + s + " " + c + " " + liked;
        Check.due("kinds" + what, x.kinds(1), kinds);
        Check.due("ask" + what, x.ask(1), ask);
        Check.due("kinds: the other" + what, x.kinds(0), 63);
    }

    private static void kindsAndAsk() {
        dueManKinds(1, 0, 1, 5, 1);
        dueManKinds(9, 0, 0, 16, 0);
        dueManKinds(9, 4, 0, 32, 0);
        dueManKinds(2, 9, 0, 36, 0);
        dueManKinds(1, 0, 6, 10, 2);
        dueManKinds(3, 3, 3, 17, 0);
        dueManKinds(9, 2, 28, 8, 0);
        dueManKinds(9, 2, 40, 0, NONE);
        LeftBehind x = IslandTests.told("island;man 0 9 9;man 5 1 9;");
        Check.due("ask: all kinds, skill 9", x.ask(0), 2);
        Check.due("ask: all kinds, skill 1", x.ask(1), 0);
        x.mark(0, 3, 3, 3);
        x.mark(0, 3, 0, 0);
        Check.due("kinds: all marks are so", x.kinds(0), 16);
        x.mark(0, 3, 0, 3);
        Check.due("kinds: no kind", x.kinds(0), 0);
        Check.due("ask: no kind", x.ask(0), NONE);
        Check.due("kinds 2", x.kinds(2), BAD);
        Check.due("kinds -1", x.kinds(-1), BAD);
        Check.due("ask 2", x.ask(2), BAD);
        Check.due("ask -1", x.ask(-1), BAD);
        Check.due("kinds, ask: refused", x.status(0), 4);
    }

    private static void water() {
        LeftBehind x = IslandTests.told("island;ship 0;ship 0;ship 0;man 0 9 0;man 0 9 0;man 0 5 1;man 0 5 1;");
        Check.due("water: both can all the same", x.water(0, 1, 2), 8);
        Check.due("water: b can not behind a call", x.water(0, 1, 4), 2);
        Check.due("water: a can not behind a call", x.water(1, 0, 4), 4);
        Check.due("water: neither can behind a call", x.water(0, 1, 5), 1);
        Check.due("water: neither can at all", x.water(0, 1, 30), 1);
        Check.due("water: nobody aboard", x.water(0, 2, 4), 2);
        Check.due("water: nobody aboard calls", x.water(2, 1, 5), 1);
        LeftBehind y = IslandTests.told("island;ship 4;ship 4;man 0 9 0;man 0 9 0;man 0 9 0;man 0 1 0;"
                + "man 0 9 1;man 0 9 1;man 0 9 1;man 0 1 1;");
        Check.due("water: only by calling", y.water(0, 1, 12), 8);
        y.calls(1);
        Check.due("water: one only by calling", y.water(0, 1, 12), 2);
        Check.due("water: nothing changed", y.count(4), 1);
        Check.due("water alike", x.water(1, 1, 1), BAD);
        Check.due("water a 3", x.water(3, 1, 1), BAD);
        Check.due("water b 3", x.water(0, 3, 1), BAD);
        Check.due("water a -1", x.water(-1, 1, 1), BAD);
        Check.due("water b -1", x.water(0, -1, 1), BAD);
        Check.due("water d 0", x.water(0, 1, 0), BAD);
        Check.due("water d 31", x.water(0, 1, 31), BAD);
        Check.due("water: refused", x.status(0), 7);
    }

    private static void dueLots(LeftBehind x, int m, int n, int above, int below) {
        Check.due("lots " + m + " " + n, x.lots(m, n), 1);
        Check.due("lots " + m + " " + n + " above", x.part(0), above);
        Check.due("lots " + m + " " + n + " below", x.part(1), below);
    }

    private static void lots() {
        LeftBehind x = IslandTests.told("island;ship 0;man 0 9 0;man 0 9 0;man 0 9 0;man 0 9 9;");
        dueLots(x, 0, 1, 1, 3);
        dueLots(x, 1, 2, 2, 3);
        dueLots(x, 2, 3, 1, 1);
        dueLots(x, 0, 0, 0, 1);
        dueLots(x, 0, 8, 1, 1);
        dueLots(x, 0, 2, 2, 3);
        Check.due("lots: on the island", x.lots(3, 1), NO);
        Check.due("lots man 4", x.lots(4, 1), BAD);
        Check.due("lots man -1", x.lots(-1, 1), BAD);
        Check.due("lots n -1", x.lots(0, -1), BAD);
        Check.due("lots n 9", x.lots(0, 9), BAD);
        Check.due("lots: bad ahead of no", x.lots(3, 9), BAD);
        Check.due("lots: refused ones change nothing", 10 * x.part(0) + x.part(1), 23);
        Check.due("lots: refused", 10 * x.status(0) + x.status(1), 51);
        LeftBehind y = new LeftBehind();
        y.ship(0);
        for (int m = 0; m < 8; m++) {
            y.man(0, 1, 0);
        }
        dueLots(y, 7, 2, 1, 4);
        dueLots(y, 7, 4, 1, 2);
        dueLots(y, 7, 6, 3, 4);
        dueLots(y, 7, 7, 7, 8);
        dueLots(y, 7, 8, 1, 1);
    }

    /** Seed 0: man 0 boards 0; 0 calls; man 0 boards 1; man 6 (not there) boards 1; 0 calls; man 1 boards 1. */
    private static void centuries() {
        LeftBehind x = IslandTests.told("island;ship 0;ship 0;man 0 5 9;man 0 3 9;man 0 1 1;");
        int[] due = {8, 3, 8, 3, 3, 3, 0};
        for (int n = 0; n < due.length; n++) {
            Check.due("centuries of 0, " + n, x.centuries(0, n), due[n]);
        }
        x.lasts(1, 1);
        Check.due("centuries: from what is now", x.centuries(0, 0), 8);
        LeftBehind z = IslandTests.told("island;ship 0;ship 0;man 0 5 1;");
        Check.due("centuries: who is aboard boards no other", z.centuries(0, 2), 0);
        LeftBehind y = IslandTests.told("island;ship 0;man 0 5 0;");
        Check.due("centuries: 8 is a call", y.centuries(11, 1), 5);
        Check.due("centuries seed -1", x.centuries(-1, 0), BAD);
        Check.due("centuries seed 1000000", x.centuries(1000000, 0), BAD);
        Check.due("centuries n -1", x.centuries(0, -1), BAD);
        Check.due("centuries n 61", x.centuries(0, 61), BAD);
        Check.due("centuries: refused", x.status(0), 4);
        Check.due("centuries: nobody there", new LeftBehind().centuries(999999, 60), 0);
    }
}
