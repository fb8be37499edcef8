/** Promises 13 to 19, and their terms, sentence by sentence: left, needs, far, behind, lasts, few, crew. */
final class LeftEdges extends Edge {
    private LeftEdges() {
    }

    static void run() {
        at("Terms");
        nothingIsChanged();
        likedAndLeft();
        far();
        behind();
        lasts();
        few();
        fewOfAShip();
        crew();
        crewFirstWay();
        at("Promise 13: left");
        leftRefused();
        at("Promise 14: needs");
        needs();
        at("Promise 15: far");
        farRefused();
        at("Promise 16: behind");
        behindRefused();
        at("Promise 17: lasts");
        lastsRefused();
        at("Promise 18: few");
        fewRefused();
        at("Promise 19: crew");
        crewRefused();
    }

    private static void nothingIsChanged() {
        Call[] looks = {x -> x.left(0), x -> x.left(1), x -> x.needs(0, 30), x -> x.far(0), x -> x.far(1), x -> x.behind(0, 1),
            x -> x.behind(0, 8), x -> x.lasts(0, 1), x -> x.lasts(0, 30), x -> x.few(1, NONE), x -> x.few(72, 1), x -> x.few(9, 0),
            x -> x.crew(1, NONE), x -> x.crew(30, 0), x -> x.skilled(0, 0), x -> x.skilled(0, 1), x -> x.skilled(3, 2),
            x -> x.tell(0), x -> x.tell(3), x -> x.is(0), x -> x.is(1), x -> x.look(0), x -> x.look(1), x -> x.kinds(0),
            x -> x.kinds(1), x -> x.ask(0), x -> x.ask(1), x -> x.water(0, 1, 1), x -> x.water(1, 0, 30),
            x -> x.centuries(0, 0), x -> x.centuries(999999, 60), x -> x.centuries(11, 1)};
        String words = "(Nothing is changed by these.)";
        test(words, "on a busy island", () -> looksOnly(Edge::busy, looks));
        test(words, "on a full one", () -> looksOnly(Edge::crowded, looks));
        test(words, "where there is none, they are refused", () -> {
            bad(Edge::bare, x -> x.left(0), x -> x.needs(0, 1), x -> x.far(0), x -> x.behind(0, 1), x -> x.lasts(0, 1),
                x -> x.water(0, 1, 1));
            looksOnly(Edge::bare, x -> x.few(1, NONE), x -> x.crew(1, NONE), x -> x.centuries(0, 60));
        });
        test(words, "one look is like the next, whatever was looked at between", () -> {
            LeftBehind x = busy();
            for (Call look : looks) {
                due("again", look.on(x), look.on(busy()));
            }
        });
    }

    private static void likedAndLeft() {
        test("LIKED of a MAN ABOARD;", "by the calls of his own ship", () -> {
            LeftBehind x = plain(aboard(1), aboard());
            goOn(x, 0, 0, 2);
            x.man(2, 9, 0);
            x.man(2, 9, 1);
            due("behind 2", x.of(1, 3), 7);
            due("behind 0", x.of(2, 3), 9);
        });
        String left = "LEFT: who would be left by a CALL now.";
        test(left, "it is who is left by one", () -> {
            LeftBehind x = plain(aboard(5, 4, 4));
            due("would be", x.left(0), 1);
            due("is", x.calls(0), 1);
            due("would be next", x.left(0), 2);
        });
        test(left, "by calls as they are now", () -> {
            due("a Cadiz man at 2", cadizAndPlain(2).left(0), 0);
            due("a Cadiz man at 3", cadizAndPlain(3).left(0), 1);
        });
    }

    /** A Cadiz man of skill 9, and behind so many calls a plain one of skill 8 beside him. */
    private static LeftBehind cadizAndPlain(int calls) {
        LeftBehind x = manBehind(4, 9, calls);
        x.man(0, 8, 0);
        return x;
    }

    private static void far() {
        String words = "FAR: the greatest d (0 .. 30) that a SHIP CAN sail (0: none).";
        test(words, "0: too little skill for 1", () -> {
            due("plain, 1", plain(aboard(1)).far(0), 0);
            due("brig of one, 5", manWith(1, 5).far(0), 0);
        });
        test(words, "0: nobody aboard", () -> due(manned(5, 0).far(0), 0));
        test(words, "1, the least that she can", () -> {
            due("plain, 2", plain(aboard(2)).far(0), 1);
            due("plain, 3", plain(aboard(3)).far(0), 1);
            due("brig of one, 6", manWith(1, 6).far(0), 1);
            due("sloop of one, 1", manWith(2, 1).far(0), 1);
        });
        test(words, "29 and 30", () -> {
            due("59", plain(aboard(9, 9, 9, 9, 9, 9, 5)).far(0), 29);
            due("60", plain(aboard(9, 9, 9, 9, 9, 9, 6)).far(0), 30);
        });
        test(words, "30 at most", () -> {
            due("72", plain(aboard(9, 9, 9, 9, 9, 9, 9, 9)).far(0), 30);
            due("boat of one, 9", manWith(5, 9).far(0), 30);
            due("boat of one, 8", manWith(5, 8).far(0), 8);
        });
    }

    private static LeftBehind manWith(int shipKind, int skill) {
        LeftBehind x = bare();
        x.ship(shipKind);
        x.man(0, skill, 0);
        return x;
    }

    private static void behind() {
        String words = "BEHIND: who is left by the k-th CALL (1 .. 8) of a SHIP from now on, nobody BOARDING; none.";
        test(words, "the 1st is who would be left now", () -> due(plain(aboard(3, 2, 2)).behind(0, 1), 1));
        test(words, "the 8th of eight", () -> {
            LeftBehind x = plain(aboard(9, 8, 7, 6, 5, 4, 3, 2));
            for (int k = 1; k <= 8; k++) {
                due("the " + k + ".", x.behind(0, k), 8 - k);
            }
        });
        test(words, "none: one more than are aboard, and 8 more", () -> {
            LeftBehind x = plain(aboard(3, 2), aboard(9));
            due("2", x.behind(0, 2), 0);
            due("3", x.behind(0, 3), NONE);
            due("8", x.behind(0, 8), NONE);
        });
        test(words, "none: nobody aboard", () -> due(manned(0, 0).behind(0, 1), NONE));
        test(words, "calls are one more behind each", () -> {
            LeftBehind x = plain(aboard(1, 2, 8));
            x.man(2, 9, 0);
            due("2nd", x.behind(0, 2), 1);
            due("3rd: the mate at 2 calls", x.behind(0, 3), 3);
            due("4th", x.behind(0, 4), 2);
        });
        test(words, "calls are held at 99 there, too", () -> {
            LeftBehind x = manBehind(0, 1, 98);
            x.man(0, 2, 0);
            x.man(5, 9, 0);
            x.man(5, 9, 0);
            due("1st, at 98", x.behind(0, 1), 0);
            due("2nd, at 99, a captain", x.behind(0, 2), 2);
            due("3rd, at 99 still, the other captain", x.behind(0, 3), 3);
            due("4th", x.behind(0, 4), 1);
        });
    }

    /** At 98 calls the plain man of 1 is left, at 99 one captain, at 99 still the other. */
    private static LeftBehind captainsAt98() {
        LeftBehind x = manBehind(0, 1, 98);
        x.man(0, 8, 0);
        x.man(5, 9, 0);
        x.man(5, 5, 0);
        return x;
    }

    private static void lasts() {
        String words = "LASTS for a SHIP and d (1 .. 30): by how many CALLS (0 .. 8) from now on she CAN not sail d any more first.";
        test(words, "0: she can not now", () -> due(plain(aboard(9, 8)).lasts(0, 9), 0));
        test(words, "0: nobody aboard", () -> due(manned(2, 0).lasts(0, 1), 0));
        test(words, "1: as much skill as she needs", () -> due(plain(aboard(9, 9)).lasts(0, 9), 1));
        test(words, "7 and 8 of eight", () -> {
            LeftBehind x = bare();
            x.ship(2);
            for (int m = 0; m < 8; m++) {
                x.man(0, 9, 0);
            }
            due("d 9", x.lasts(0, 9), 8);
            due("d 10", x.lasts(0, 10), 7);
            due("d 1", x.lasts(0, 1), 8);
            due("d 30", x.lasts(0, 30), 5);
        });
        test(words, "first: though she can again behind one more", () -> {
            LeftBehind x = bare();
            x.ship(4);
            for (int skill : aboard(9, 9, 9, 1)) {
                x.man(0, skill, 0);
            }
            due("not now, but behind one", x.lasts(0, 12), 0);
            due("now", x.lasts(0, 11), 2);
        });
        test(words, "calls are one more behind each", () -> {
            LeftBehind x = bare();
            x.ship(2);
            for (int skill : aboard(1, 2, 8)) {
                x.man(0, skill, 0);
            }
            x.man(2, 9, 0);
            due("the mate is left by the 3rd, so 8 stay", x.lasts(0, 9), 3);
            due("8 are enough", x.lasts(0, 8), 4);
        });
        test(words, "calls are held at 99 there, too", () -> {
            due("the plain man of 8 stays behind the 3rd", captainsAt98().lasts(0, 4), 4);
            due("he is too little for 5", captainsAt98().lasts(0, 5), 3);
        });
    }

    private static void few() {
        String x72 = "FEW for x (1 .. 72):";
        test(x72, "1 and 72", () -> {
            LeftBehind x = plain(aboard(9, 9, 9, 9, 9, 9, 9, 9));
            due("1", x.few(1, NONE), 1);
            due("72", x.few(72, NONE), 8);
            due("63", x.few(63, NONE), 7);
            due("64", x.few(64, NONE), 8);
        });
        test(x72, "0 and 73", () -> refused(Edge::busy, -10, 0, x -> x.few(0, NONE), x -> x.few(73, NONE)));
        String words = "the fewest CALLS (of all SHIPS together) by which SKILLS on THE ISLAND together are x or more: how many;";
        test(words, "as many skills as x, and one less", () -> {
            LeftBehind x = plain(aboard(2, 9), aboard(5));
            due("5", x.few(5, NONE), 1);
            due("6", x.few(6, NONE), 2);
            due("11", x.few(11, NONE), 2);
            due("12", x.few(12, NONE), 3);
            due("16", x.few(16, NONE), 3);
        });
        test(words, "two of one ship, six of another, however many are asked for", () -> {
            LeftBehind x = plain(aboard(9, 9), aboard(1, 1, 1, 1, 1, 1));
            int[] few = {1, 1, 1, 1, 1, 1, 1, 1, 1, 2, 2, 2, 2, 2, 2, 2, 2, 2, 3, 4, 5, 6, 7, 8, -6};
            int[] first = {0, 1, 1, 1, 1, 1, 1, 1, 1, 1, 2, 2, 2, 2, 2, 2, 2, 2, 2, 2, 2, 2, 2, 2, -6};
            for (int i = 0; i < few.length; i++) {
                due(i + 1 + " in all", x.few(i + 1, NONE), few[i]);
                due(i + 1 + ", made by the first", x.few(i + 1, 0), first[i]);
            }
        });
        test(words, "those on the island count", () -> {
            LeftBehind x = plain(aboard(2, 9));
            x.man(0, 4, NONE);
            due("5", x.few(5, NONE), 1);
            due("6", x.few(6, NONE), 1);
            due("7", x.few(7, NONE), 2);
        });
        test(words, "she who leaves most at once is not she who leaves most at last", () -> {
            LeftBehind x = plain(aboard(1, 9), aboard(4, 4));
            due("5", x.few(5, NONE), 2);
            due("9, by the first alone", x.few(9, NONE), 2);
            due("the first's", x.few(9, 0), 2);
        });
        test(words, "by calls as they go on", () -> {
            due("a Cadiz man at 2", cadizAndPlain(2).few(9, NONE), 1);
            due("a Cadiz man at 3", cadizAndPlain(3).few(9, NONE), 2);
            LeftBehind x = plain(aboard(1, 2, 3));
            x.man(4, 9, 0);
            goOn(x, 0, 3, 1);
            due("a Cadiz man at 1", x.few(9, NONE), 1);
        });
        test(words, "calls are held at 99 there, too", () -> {
            due("15", captainsAt98().few(15, NONE), 3);
            due("16", captainsAt98().few(16, NONE), 4);
        });
        String none = "none (0: they are).";
        test(none, "they are, and one more is not", () -> {
            LeftBehind x = plain(aboard(9));
            x.man(0, 4, NONE);
            due("4", x.few(4, NONE), 0);
            due("5", x.few(5, NONE), 1);
        });
        test(none, "they are, without a ship", () -> {
            LeftBehind x = bare();
            x.man(0, 4, NONE);
            due("4", x.few(4, NONE), 0);
            due("5", x.few(5, NONE), -6);
        });
        test(none, "none: all together are too few", () -> {
            LeftBehind x = plain(aboard(2, 9), aboard(5));
            due("16", x.few(16, NONE), 3);
            due("17", x.few(17, NONE), -6);
            due("72", x.few(72, NONE), -6);
        });
    }

    private static void fewOfAShip() {
        String words = "how many of them a SHIP makes in the first such way (SHIPS by numbers, fewest first);";
        test(words, "three alike: the last ones make them", () -> {
            LeftBehind x = plain(aboard(5), aboard(5), aboard(5));
            dueMade(x, 5, 0, 0, 1);
            dueMade(x, 10, 0, 1, 1);
            dueMade(x, 15, 1, 1, 1);
        });
        test(words, "the last ship all of them, where that is enough", () -> {
            LeftBehind x = plain(aboard(4, 4), aboard(4, 4), aboard(4, 4));
            dueMade(x, 8, 0, 0, 2);
            dueMade(x, 12, 0, 1, 2);
            dueMade(x, 20, 1, 2, 2);
        });
        test(words, "the first ship fewest, then the second", () -> {
            LeftBehind x = plain(aboard(1, 9), aboard(5, 5), aboard(1, 1));
            dueMade(x, 6, 0, 1, 1);
            dueMade(x, 10, 0, 2, 0);
            dueMade(x, 11, 0, 2, 1);
            dueMade(x, 15, 2, 1, 0);
        });
        test(words, "who has nobody aboard makes none", () -> {
            dueMade(plain(aboard(5), aboard(), aboard(5)), 10, 1, 0, 1);
            dueMade(plain(aboard(), aboard(5, 5), aboard()), 10, 0, 2, 0);
        });
        test(words, "0 each: they are", () -> {
            LeftBehind x = plain(aboard(5), aboard(5), aboard(5));
            x.man(0, 9, NONE);
            dueMade(x, 9, 0, 0, 0);
        });
        test(words, "all eight of one ship", () -> {
            LeftBehind x = plain(aboard(), aboard(), aboard(9, 9, 9, 9, 9, 9, 9, 9));
            dueMade(x, 72, 0, 0, 8);
        });
    }

    private static void dueMade(LeftBehind x, int skills, int... made) {
        int sum = 0;
        for (int h = 0; h < made.length; h++) {
            due(skills + ", made by " + h, x.few(skills, h), made[h]);
            sum += made[h];
        }
        due(skills + ", together", x.few(skills, NONE), sum);
    }

    private static void crew() {
        test("CREW for d (1 .. 30):", "1 and 30, 0 and 31", () -> {
            LeftBehind x = bare();
            x.ship(5);
            x.man(0, 9, NONE);
            due("1", x.crew(1, NONE), 1);
            due("30", x.crew(30, NONE), 1);
            refused(Edge::busy, -10, 0, y -> y.crew(0, NONE), y -> y.crew(31, NONE));
        });
        String words = "who is on THE ISLAND goes ABOARD SHIPS, or stays, so that most SHIPS CAN sail d: how many;";
        test(words, "no ship, nobody", () -> {
            due("nobody", bare().crew(1, NONE), 0);
            LeftBehind x = bare();
            x.man(0, 9, NONE);
            due("no ship", x.crew(1, NONE), 0);
            due("he stays", x.crew(1, 0), NONE);
            due("no man", manned(0, 0).crew(1, NONE), 0);
        });
        test(words, "nobody on the island: those that can as they are", () -> {
            LeftBehind x = plain(aboard(4), aboard(3), aboard(5));
            due("d 1", x.crew(1, NONE), 3);
            due("d 2", x.crew(2, NONE), 2);
            due("d 3", x.crew(3, NONE), 0);
        });
        test(words, "as much skill as she needs, and one less", () -> {
            LeftBehind x = plain(aboard(3));
            x.man(0, 3, NONE);
            due("d 3", x.crew(3, NONE), 1);
            due("d 4", x.crew(4, NONE), 0);
        });
        test(words, "three ships, eight men: all of them are needed", () -> {
            LeftBehind x = ashore(aboard(0, 0, 0), 3, 3, 2, 4, 4, 3, 3, 2);
            due("d 4", x.crew(4, NONE), 3);
            due("d 5", x.crew(5, NONE), 2);
            due("d 12", x.crew(12, NONE), 1);
            due("d 13", x.crew(13, NONE), 0);
        });
        test(words, "one more aboard may be one too many", () -> {
            LeftBehind x = bare();
            x.ship(4);
            for (int m = 0; m < 3; m++) {
                x.man(0, 2, 0);
            }
            x.man(0, 4, NONE);
            due("as she is", x.crew(3, NONE), 1);
            due("with him", x.crew(2, NONE), 1);
            due("he stays", x.crew(3, 3), NONE);
            due("10 is less than 13", x.crew(4, NONE), 0);
        });
        test(words, "a boat of two and a third", () -> {
            LeftBehind x = bare();
            x.ship(5);
            x.man(0, 4, 0);
            x.man(0, 4, 0);
            x.man(0, 9, NONE);
            due("17 for 17", x.crew(17, NONE), 1);
            due("17 for 18", x.crew(18, NONE), 0);
        });
    }

    /** Ships of these kinds, and plain men of these skills on the island. */
    private static LeftBehind ashore(int[] kinds, int... skills) {
        LeftBehind x = bare();
        for (int kind : kinds) {
            x.ship(kind);
        }
        for (int skill : skills) {
            x.man(0, skill, NONE);
        }
        return x;
    }

    private static void dueWay(LeftBehind x, int d, int... places) {
        for (int m = 0; m < places.length; m++) {
            due("to sail " + d + ", man " + m, x.crew(d, m), places[m]);
        }
    }

    private static void crewFirstWay() {
        String words = "where one goes in the first such way (MEN by numbers; staying (NONE) first, then SHIPS rising).";
        test(words, "staying first", () -> dueWay(ashore(aboard(0), 4, 4, 4), 2, NONE, NONE, 0));
        test(words, "then ships rising", () -> {
            dueWay(ashore(aboard(0, 0, 0), 4, 4, 4), 2, 0, 1, 2);
            dueWay(ashore(aboard(0, 0), 4, 4, 4), 2, NONE, 0, 1);
        });
        test(words, "men by numbers: man 0 stays, whoever must go for it", () ->
            dueWay(ashore(aboard(0), 8, 2, 2, 2, 2), 4, NONE, 0, 0, 0, 0));
        test(words, "all stay: no ship can", () -> dueWay(ashore(aboard(0, 0), 1, 1), 2, NONE, NONE));
        test(words, "all stay: she can as she is", () -> {
            LeftBehind x = plain(aboard(9));
            x.man(0, 9, NONE);
            dueWay(x, 4, NONE, NONE);
        });
        test(words, "all eight go", () -> {
            dueWay(ashore(aboard(0), 1, 1, 1, 1, 1, 1, 1, 1), 4, 0, 0, 0, 0, 0, 0, 0, 0);
            dueWay(ashore(aboard(0, 0, 0), 3, 3, 2, 4, 4, 3, 3, 2), 4, 0, 0, 0, 1, 1, 2, 2, 2);
        });
        test(words, "all eight go to the last ship, the others needing more", () -> {
            LeftBehind x = ashore(aboard(1, 1, 0), 1, 1, 1, 1, 1, 1, 1, 1);
            due("how many", x.crew(4, NONE), 1);
            dueWay(x, 4, 2, 2, 2, 2, 2, 2, 2, 2);
            due("to sail 5, none", x.crew(5, NONE), 0);
        });
        test(words, "unlike ships: who fits no other goes where he fits", () ->
            dueWay(ashore(aboard(1, 2, 0), 2, 6, 1), 1, 2, 0, 1));
        test(words, "to the last ship of three, as the others sail", () -> {
            LeftBehind x = plain(aboard(4), aboard(4), aboard());
            x.man(0, 9, NONE);
            x.man(0, 4, NONE);
            dueWay(x, 2, NONE, NONE, NONE, 2);
        });
        test(words, "a packet that must not have a fourth", () -> {
            LeftBehind x = bare();
            x.ship(4);
            x.ship(0);
            for (int m = 0; m < 3; m++) {
                x.man(0, 2, 0);
            }
            x.man(0, 6, NONE);
            dueWay(x, 3, NONE, NONE, NONE, 1);
        });
    }

    private static void leftRefused() {
        test("LEFT. NONE.", "man 0, man 7, nobody", () -> {
            LeftBehind x = plain(aboard(1), aboard(2, 2, 2, 2, 2, 2, 1), aboard());
            due("0", x.left(0), 0);
            due("7", x.left(1), 7);
            due("nobody", x.left(2), NONE);
        });
        test("LEFT. NONE.", "nobody is no refusal", () -> changesNothing(Edge::busy, NONE, x -> x.left(1)));
        test("BAD.", "ship -1, and the one behind the last", () -> bad(Edge::busy, x -> x.left(-1), x -> x.left(2),
            x -> x.left(LOWEST), x -> x.left(HIGHEST)));
        test("BAD.", "ship 3 of three", () -> bad(Edge::crowded, x -> x.left(3)));
    }

    private static void needs() {
        test("How much SKILL a SHIP NEEDS now to sail d.", "by who is aboard now", () -> {
            LeftBehind x = manned(4, 4);
            due("with four", x.needs(0, 1), 7);
            x.calls(0);
            due("with three", x.needs(0, 1), 2);
            x.boards(0, 0);
            due("with four again", x.needs(0, 1), 7);
        });
        test("How much SKILL a SHIP NEEDS now to sail d.", "65, the most of all", () ->
            due(manned(4, 8).needs(0, 30), 65));
        test("BAD.", "ship -1, and the one behind the last", () -> bad(Edge::busy, x -> x.needs(-1, 1), x -> x.needs(2, 1),
            x -> x.needs(LOWEST, 1), x -> x.needs(HIGHEST, 1)));
        test("BAD.", "d 0 and 31", () -> bad(Edge::busy, x -> x.needs(0, 0), x -> x.needs(0, 31), x -> x.needs(0, LOWEST),
            x -> x.needs(0, HIGHEST)));
        test("BAD.", "d 1 and 30 are not", () -> {
            due("1", busy().needs(0, 1), 6);
            due("30", busy().needs(0, 30), 64);
        });
    }

    private static void farRefused() {
        test("FAR.", "of the first ship, of the last", () -> {
            LeftBehind x = plain(aboard(2), aboard(9), aboard(6));
            due("the first", x.far(0), 1);
            due("the last", x.far(2), 3);
        });
        test("FAR.", "0 is no refusal", () -> changesNothing(Edge::busy, 0, x -> x.far(1)));
        test("BAD.", "ship -1, and the one behind the last", () -> bad(Edge::busy, x -> x.far(-1), x -> x.far(2),
            x -> x.far(LOWEST), x -> x.far(HIGHEST)));
        test("BAD.", "ship 3 of three", () -> bad(Edge::crowded, x -> x.far(3)));
    }

    private static void behindRefused() {
        test("BEHIND. NONE.", "nobody is no refusal", () ->
            changesNothing(Edge::busy, NONE, x -> x.behind(1, 1), x -> x.behind(0, 3), x -> x.behind(0, 8)));
        test("BAD.", "k 0 and 9", () -> bad(Edge::busy, x -> x.behind(0, 0), x -> x.behind(0, 9), x -> x.behind(0, LOWEST),
            x -> x.behind(0, HIGHEST)));
        test("BAD.", "k 0 and 9 of a ship with nobody aboard", () -> bad(Edge::busy, x -> x.behind(1, 0), x -> x.behind(1, 9)));
        test("BAD.", "ship -1, and the one behind the last", () -> bad(Edge::busy, x -> x.behind(-1, 1), x -> x.behind(2, 1),
            x -> x.behind(LOWEST, 1), x -> x.behind(HIGHEST, 1)));
    }

    private static void lastsRefused() {
        test("LASTS.", "0 is no refusal", () -> changesNothing(Edge::busy, 0, x -> x.lasts(1, 1), x -> x.lasts(0, 30)));
        test("BAD.", "d 0 and 31", () -> bad(Edge::busy, x -> x.lasts(0, 0), x -> x.lasts(0, 31), x -> x.lasts(0, LOWEST),
            x -> x.lasts(0, HIGHEST)));
        test("BAD.", "ship -1, and the one behind the last", () -> bad(Edge::busy, x -> x.lasts(-1, 1), x -> x.lasts(2, 1),
            x -> x.lasts(LOWEST, 1), x -> x.lasts(HIGHEST, 1)));
    }

    private static void fewRefused() {
        test("FEW: how many (h = NONE), how many a SHIP makes.", "h NONE, the first ship, the last", () -> {
            LeftBehind x = plain(aboard(9), aboard(1), aboard(9));
            due("NONE", x.few(18, NONE), 2);
            due("the first", x.few(18, 0), 1);
            due("the last", x.few(18, 2), 1);
        });
        test("-6: none (whatever h is, as told).", "h NONE, the first ship, the last", () ->
            changesNothing(Edge::busy, -6, x -> x.few(72, NONE), x -> x.few(72, 0), x -> x.few(72, 1)));
        test("-6: none (whatever h is, as told).", "h not as told", () ->
            refused(Edge::busy, -10, 0, x -> x.few(72, 2), x -> x.few(72, -2)));
        test("BAD: -10.", "x 0 and 73", () -> refused(Edge::busy, -10, 0, x -> x.few(0, NONE), x -> x.few(73, 0),
            x -> x.few(LOWEST, NONE), x -> x.few(HIGHEST, NONE)));
        test("BAD: -10.", "x 1 and 72 are not", () -> looksOnly(Edge::busy, x -> x.few(1, NONE), x -> x.few(72, NONE)));
        test("BAD: -10.", "ship -2, and the one behind the last", () -> refused(Edge::busy, -10, 0, x -> x.few(1, -2),
            x -> x.few(1, 2), x -> x.few(1, LOWEST), x -> x.few(1, HIGHEST)));
        test("BAD: -10.", "ship 3 of three, ship 0 of none", () -> {
            refused(Edge::crowded, -10, 0, x -> x.few(1, 3));
            refused(Edge::bare, -10, 0, x -> x.few(1, 0));
        });
    }

    private static void crewRefused() {
        String words = "CREW: how many (m = NONE), where one goes (NONE: he stays, or is ABOARD already).";
        test(words, "he goes, he stays, he is aboard already", () -> {
            LeftBehind x = plain(aboard(2), aboard());
            x.man(0, 4, NONE);
            x.man(0, 4, NONE);
            due("how many", x.crew(1, NONE), 2);
            due("aboard already", x.crew(1, 0), NONE);
            due("he stays", x.crew(1, 1), NONE);
            due("he goes", x.crew(1, 2), 1);
        });
        test(words, "aboard already, of a ship that can not sail", () -> {
            LeftBehind x = plain(aboard(2), aboard());
            x.man(0, 9, NONE);
            due("how many", x.crew(4, NONE), 1);
            due("aboard", x.crew(4, 0), NONE);
            due("he goes aboard her", x.crew(4, 1), 0);
        });
        test(words, "0 is no refusal", () -> changesNothing(Edge::bare, 0, x -> x.crew(1, NONE)));
        test("BAD: -10.", "d 0 and 31", () -> refused(Edge::busy, -10, 0, x -> x.crew(0, NONE), x -> x.crew(31, 0),
            x -> x.crew(LOWEST, NONE), x -> x.crew(HIGHEST, NONE)));
        test("BAD: -10.", "d 1 and 30 are not", () -> looksOnly(Edge::busy, x -> x.crew(1, NONE), x -> x.crew(30, NONE)));
        test("BAD: -10.", "man -2, and the one behind the last", () -> refused(Edge::busy, -10, 0, x -> x.crew(1, -2),
            x -> x.crew(1, 4), x -> x.crew(1, LOWEST), x -> x.crew(1, HIGHEST)));
        test("BAD: -10.", "man 8 of eight, man 0 of none", () -> {
            refused(Edge::crowded, -10, 0, x -> x.crew(1, 8));
            refused(Edge::bare, -10, 0, x -> x.crew(1, 0));
        });
    }
}
