/** Promises 13 to 19: who would be left, how far a ship sails, the fewest calls, the best crews. */
final class LeftTests {
    private static final int NONE = LeftBehind.NONE, BAD = LeftBehind.BAD;

    private LeftTests() {
    }

    static void run() {
        left();
        needs();
        far();
        behind();
        lasts();
        few();
        fewFirstWay();
        crew();
        crewFirstWay();
        crewOfAll();
        crewHarm();
        nothingIsChanged();
    }

    private static void left() {
        LeftBehind x = IslandTests.told("island;ship 0;ship 0;man 0 4 0;man 0 3 0;man 4 9 0;man 4 9 9;");
        Check.due("left: Cadiz", x.left(0), 2);
        Check.due("left: nobody", x.left(1), NONE);
        Check.due("left -1", x.left(-1), BAD);
        Check.due("left 2", x.left(2), BAD);
        Check.due("left: nothing changed", x.of(2, 2), 0);
        Check.due("left: refused", x.status(0), 2);
        x.calls(0);
        Check.due("left: then", x.left(0), 1);
    }

    /** What each kind needs, as the document's words give it: men aboard 0, 2, 3, 4, 8; to sail 1, 9, 10, 30. */
    private static void needs() {
        int[] men = {0, 2, 3, 4, 8};
        int[] ways = {1, 9, 10, 30};
        int[][][] due = {
            {{2, 18, 20, 60}, {2, 18, 20, 60}, {2, 18, 20, 60}, {2, 18, 20, 60}, {2, 18, 20, 60}},
            {{6, 22, 24, 64}, {6, 22, 24, 64}, {6, 22, 24, 64}, {6, 22, 24, 64}, {6, 22, 24, 64}},
            {{1, 9, 10, 30}, {1, 9, 10, 30}, {1, 9, 10, 30}, {1, 9, 10, 30}, {1, 9, 10, 30}},
            {{6, 22, 24, 64}, {2, 18, 20, 60}, {1, 16, 18, 58}, {1, 14, 16, 56}, {1, 6, 8, 48}},
            {{2, 18, 20, 60}, {2, 18, 20, 60}, {2, 18, 20, 60}, {7, 23, 25, 65}, {7, 23, 25, 65}},
            {{1, 9, 9, 9}, {1, 9, 9, 9}, {1, 9, 10, 30}, {1, 9, 10, 30}, {1, 9, 10, 30}},
        };
        for (int kind = 0; kind < 6; kind++) {
            for (int i = 0; i < men.length; i++) {
                LeftBehind x = new LeftBehind();
                x.ship(kind);
                for (int m = 0; m < men[i]; m++) {
                    x.man(0, 1, 0);
                }
                for (int j = 0; j < ways.length; j++) {
                    String what = "needs: kind " + kind + " men " + men[i] + " to sail " + ways[j];
                    Check.due(what, x.needs(0, ways[j]), due[kind][i][j]);
                }
            }
        }
        LeftBehind x = IslandTests.told("island;ship 0;");
        Check.due("needs ship -1", x.needs(-1, 1), BAD);
        Check.due("needs ship 1", x.needs(1, 1), BAD);
        Check.due("needs d 0", x.needs(0, 0), BAD);
        Check.due("needs d 31", x.needs(0, 31), BAD);
        Check.due("needs: refused", x.status(0), 4);
    }

    private static void far() {
        LeftBehind x = IslandTests.told("island;ship 0;ship 5;ship 1;man 0 7 0;man 0 9 1;man 0 5 2;");
        Check.due("far: plain", x.far(0), 3);
        Check.due("far: boat", x.far(1), 30);
        Check.due("far: brig, none", x.far(2), 0);
        x.calls(0);
        Check.due("far: nobody", x.far(0), 0);
        Check.due("far -1", x.far(-1), BAD);
        Check.due("far 3", x.far(3), BAD);
        Check.due("far: refused", x.status(0), 2);
        LeftBehind y = IslandTests.told("island;ship 4;man 0 9 0;man 0 9 0;man 0 1 0;man 0 4 9;");
        Check.due("far: packet, 3", y.far(0), 9);
        y.boards(0, 3);
        Check.due("far: packet, 4", y.far(0), 9);
        LeftBehind z = IslandTests.told("island;ship 3;man 0 9 0;man 0 1 0;");
        Check.due("far: whaler", z.far(0), 5);
    }

    private static void behind() {
        LeftBehind x = IslandTests.told("island;ship 0;man 5 1 0;man 0 3 0;man 2 5 0;man 0 2 9;");
        Check.due("behind 1", x.behind(0, 1), 1);
        Check.due("behind 2", x.behind(0, 2), 2);
        Check.due("behind 3", x.behind(0, 3), 0);
        Check.due("behind 4", x.behind(0, 4), NONE);
        Check.due("behind 8", x.behind(0, 8), NONE);
        Check.due("behind 0", x.behind(0, 0), BAD);
        Check.due("behind 9", x.behind(0, 9), BAD);
        Check.due("behind ship 1", x.behind(1, 1), BAD);
        Check.due("behind ship -1", x.behind(-1, 1), BAD);
        Check.due("behind: refused", x.status(0), 4);
    }

    private static void lasts() {
        LeftBehind x = IslandTests.told("island;ship 0;ship 0;man 0 9 0;man 0 3 0;man 0 5 0;");
        Check.due("lasts 1", x.lasts(0, 1), 3);
        Check.due("lasts 5", x.lasts(0, 5), 2);
        Check.due("lasts 8", x.lasts(0, 8), 1);
        Check.due("lasts 9: not now", x.lasts(0, 9), 0);
        Check.due("lasts: nobody", x.lasts(1, 1), 0);
        Check.due("lasts d 0", x.lasts(0, 0), BAD);
        Check.due("lasts d 31", x.lasts(0, 31), BAD);
        Check.due("lasts ship 2", x.lasts(2, 1), BAD);
        Check.due("lasts ship -1", x.lasts(-1, 1), BAD);
        Check.due("lasts: refused", x.status(0), 4);
        LeftBehind y = new LeftBehind();
        y.ship(2);
        for (int m = 0; m < 8; m++) {
            y.man(0, 9, 0);
        }
        Check.due("lasts: 8", y.lasts(0, 9), 8);
        LeftBehind z = IslandTests.told("island;ship 4;man 0 9 0;man 0 9 0;man 0 9 0;man 0 1 0;");
        Check.due("lasts: first, though she can again behind it", z.lasts(0, 12), 0);
        Check.due("lasts: a packet", z.lasts(0, 11), 2);
    }

    private static void few() {
        LeftBehind x = IslandTests.told("island;ship 0;ship 0;man 0 2 0;man 0 9 0;man 0 5 1;man 0 3 9;");
        Check.due("few: they are", x.few(3, -1), 0);
        Check.due("few: they are, of one", x.few(3, 1), 0);
        Check.due("few 4", x.few(4, -1), 1);
        Check.due("few 4: 0 makes", x.few(4, 0), 0);
        Check.due("few 4: 1 makes", x.few(4, 1), 1);
        Check.due("few 9", x.few(9, -1), 2);
        Check.due("few 9: 0 makes", x.few(9, 0), 1);
        Check.due("few 9: 1 makes", x.few(9, 1), 1);
        Check.due("few 19", x.few(19, -1), 3);
        Check.due("few 19: 0 makes", x.few(19, 0), 2);
        Check.due("few 20: none", x.few(20, -1), -6);
        Check.due("few 20: none, of one", x.few(20, 1), -6);
        Check.due("few 72: none", x.few(72, 0), -6);
        Check.due("few: none is not refused", x.status(0) + x.status(1) + x.status(2), 0);
        Check.due("few 0", x.few(0, -1), -10);
        Check.due("few 73", x.few(73, -1), -10);
        Check.due("few ship 2", x.few(1, 2), -10);
        Check.due("few ship -2", x.few(1, -2), -10);
        Check.due("few ship 2, where there is none", x.few(72, 2), -10);
        Check.due("few: refused", x.status(0), 5);
        Check.due("few: nobody there", new LeftBehind().few(1, -1), -6);
    }

    private static void fewFirstWay() {
        LeftBehind x = IslandTests.told("island;ship 0;ship 0;ship 0;man 0 5 0;man 0 5 1;man 0 5 2;");
        Check.due("few: the first way, 2 makes one", x.few(5, 2), 1);
        Check.due("few: the first way of two, 0", x.few(6, 0), 0);
        Check.due("few: the first way of two, 1", x.few(6, 1), 1);
        Check.due("few: the first way of two, 2", x.few(6, 2), 1);
        LeftBehind z = IslandTests.told("island;ship 0;ship 0;ship 0;man 0 5 0;man 0 5 2;");
        for (int h = 0; h < 3; h++) {
            Check.due("few: who has nobody makes none, " + h, z.few(10, h), h == 1 ? 0 : 1);
        }
        LeftBehind y = new LeftBehind();
        y.ship(0);
        for (int m = 0; m < 8; m++) {
            y.man(0, 9, 0);
        }
        Check.due("few 72: 8", y.few(72, 0), 8);
        Check.due("few 64: 8", y.few(64, -1), 8);
        Check.due("few 63: 7", y.few(63, -1), 7);
    }

    private static void crew() {
        LeftBehind x = IslandTests.told("island;ship 0;ship 0;man 0 4 0;man 0 6 9;man 0 4 9;man 0 1 9;");
        Check.due("crew 2", x.crew(2, -1), 2);
        Check.due("crew 2: 0 is aboard", x.crew(2, 0), NONE);
        Check.due("crew 2: 1 stays", x.crew(2, 1), NONE);
        Check.due("crew 2: 2 goes", x.crew(2, 2), 1);
        Check.due("crew 2: 3 stays", x.crew(2, 3), NONE);
        Check.due("crew 5", x.crew(5, -1), 1);
        Check.due("crew 5: 1 goes", x.crew(5, 1), 0);
        Check.due("crew 5: 2 stays", x.crew(5, 2), NONE);
        Check.due("crew 7", x.crew(7, -1), 1);
        Check.due("crew 7: 1", x.crew(7, 1), 0);
        Check.due("crew 7: 2", x.crew(7, 2), 0);
        Check.due("crew 8: none", x.crew(8, -1), 0);
        Check.due("crew 8: who stays", x.crew(8, 1), NONE);
        Check.due("crew d 0", x.crew(0, -1), -10);
        Check.due("crew d 31", x.crew(31, -1), -10);
        Check.due("crew man 4", x.crew(1, 4), -10);
        Check.due("crew man -2", x.crew(1, -2), -10);
        Check.due("crew: refused", x.status(0), 4);
        Check.due("crew: nobody there", new LeftBehind().crew(1, -1), 0);
    }

    private static void crewFirstWay() {
        LeftBehind x = IslandTests.told("island;ship 0;ship 0;ship 0;man 0 4 9;man 0 4 9;man 0 4 9;man 0 4 9;");
        Check.due("crew: three", x.crew(2, -1), 3);
        int[] due = {NONE, 0, 1, 2};
        for (int m = 0; m < 4; m++) {
            Check.due("crew: the first way, man " + m, x.crew(2, m), due[m]);
        }
        LeftBehind y = IslandTests.told("island;ship 1;ship 2;ship 0;man 0 2 9;man 0 6 9;man 0 1 9;");
        Check.due("crew: unlike ships", y.crew(1, -1), 3);
        Check.due("crew: plain takes 2", y.crew(1, 0), 2);
        Check.due("crew: the brig takes 6", y.crew(1, 1), 0);
        Check.due("crew: the sloop takes 1", y.crew(1, 2), 1);
    }

    private static void crewOfAll() {
        LeftBehind x = IslandTests.told("island;ship 0;");
        for (int m = 0; m < 8; m++) {
            x.man(0, 1, -1);
        }
        Check.due("crew: all must go", x.crew(4, -1), 1);
        for (int m = 0; m < 8; m++) {
            Check.due("crew: all must go, man " + m, x.crew(4, m), 0);
            Check.due("crew: the last two are enough, man " + m, x.crew(1, m), m < 6 ? NONE : 0);
        }
        LeftBehind y = IslandTests.told("island;ship 0;ship 0;man 0 4 0;man 0 4 9;");
        Check.due("crew: one sails as she is", y.crew(2, -1), 2);
        Check.due("crew: so all go to the other", y.crew(2, 1), 1);
    }

    /** One more aboard may hinder a packet, and a boat: nobody goes where he is no use. */
    private static void crewHarm() {
        LeftBehind x = IslandTests.told("island;ship 4;man 0 2 0;man 0 2 0;man 0 2 0;man 0 4 9;man 0 5 9;");
        Check.due("crew: a packet as she is", x.crew(3, -1), 1);
        Check.due("crew: a packet as she is, 3", x.crew(3, 3), NONE);
        Check.due("crew: one more is no use, so both, 3", x.crew(4, 3), 0);
        Check.due("crew: one more is no use, so both, 4", x.crew(4, 4), 0);
        Check.due("crew: both at the most", x.crew(5, -1), 1);
        Check.due("crew: nor are both", x.crew(6, -1), 0);
        LeftBehind y = IslandTests.told("island;ship 5;man 0 4 0;man 0 4 0;man 0 1 9;man 0 9 9;");
        Check.due("crew: a boat of two can not be helped by a third", y.crew(30, -1), 0);
    }

    private static void nothingIsChanged() {
        LeftBehind x = IslandTests.told("island;ship 4;ship 3;man 0 2 0;man 5 2 0;man 3 2 1;man 0 4 9;man 0 5 9;");
        x.boards(0, 3);
        long before = x.digest();
        x.left(0);
        x.needs(0, 4);
        x.far(0);
        x.behind(0, 2);
        x.lasts(0, 1);
        x.few(10, 0);
        x.crew(3, 4);
        x.water(0, 1, 3);
        x.centuries(5, 60);
        x.tell(0);
        x.look(0);
        x.ask(0);
        Check.due("looking changes nothing", x.digest(), before);
        Check.due("he is where he was", x.of(4, 2), NONE);
    }
}
