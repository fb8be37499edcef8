import java.math.BigInteger;
import java.util.function.Supplier;

/** Promises 20 to 32, and their terms, sentence by sentence: seen to centuries. */
final class SkillEdges extends Edge {
    private static final BigInteger TIMES = BigInteger.valueOf(1103515245);
    private static final BigInteger MORE = BigInteger.valueOf(12345);
    private static final BigInteger OVER = BigInteger.valueOf(2147483648L);

    private SkillEdges() {
    }

    static void run() {
        at("Terms");
        seen();
        skilled();
        tell();
        notes();
        kindsOfShips();
        marks();
        kindsOfMen();
        water();
        lots();
        centuries();
        centuriesShips();
        centuriesDoings();
        centuriesStepByStep();
        at("Promise 20: seen");
        seenRefused();
        at("Promise 21: skilled");
        skilledRefused();
        at("Promise 22: tell");
        tellRefused();
        at("Promise 23: note");
        noteRefused();
        at("Promise 24: mark");
        markRefused();
        at("Promise 25: forget");
        forget();
        looksRefused();
        at("Promise 30: water");
        waterRefused();
        at("Promise 31: lots");
        lotsRefused();
        at("Promise 32: centuries");
        centuriesRefused();
    }

    /** Men of these kinds, all of skill 1, on the island. */
    private static LeftBehind kinds(int... kinds) {
        LeftBehind x = bare();
        for (int kind : kinds) {
            x.man(kind, 1, NONE);
        }
        return x;
    }

    private static void dueSkills(LeftBehind x, int m, int many, int least, int greatest) {
        due("how many", x.skilled(m, 0), many);
        due("the least", x.skilled(m, 1), least);
        due("the greatest", x.skilled(m, 2), greatest);
    }

    private static LeftBehind seenOnce(int kind, int c, int l, int left) {
        LeftBehind x = kinds(kind);
        due("seen", x.seen(0, c, l, left), 1);
        return x;
    }

    private static void seen() {
        String words = "SEEN 0 .. 4, as they come: on a SHIP that made c (0 .. 99) CALLS, the least LIKED of all others ABOARD "
            + "being LIKED by l (0 .. 30), a MAN was left (1: LIKED by l or less) or not (0: by more).";
        test(words, "five, and then it is full", () -> {
            LeftBehind x = kinds(0);
            for (int i = 1; i <= 5; i++) {
                due("seen", x.seen(0, 0, 9, 1), i);
            }
            due("one more", x.seen(0, 0, 9, 1), FULL);
        });
        test(words, "left: liked by l is left, by one more is not", () -> dueSkills(seenOnce(0, 0, 4, 1), 0, 4, 1, 4));
        test(words, "not left: liked by l is left, by one more is not", () -> dueSkills(seenOnce(0, 0, 4, 0), 0, 5, 5, 9));
        test(words, "l 0 and l 30", () -> {
            dueSkills(seenOnce(0, 0, 0, 1), 0, 0, NONE, NONE);
            dueSkills(seenOnce(0, 0, 0, 0), 0, 9, 1, 9);
            dueSkills(seenOnce(4, 0, 0, 1), 0, 9, 1, 9);
            dueSkills(seenOnce(3, 2, 30, 1), 0, 9, 1, 9);
            dueSkills(seenOnce(3, 2, 30, 0), 0, 0, NONE, NONE);
            dueSkills(seenOnce(3, 2, 27, 0), 0, 1, 9, 9);
        });
        test(words, "c 0 and c 99", () -> {
            dueSkills(seenOnce(2, 0, 3, 1), 0, 3, 1, 3);
            dueSkills(seenOnce(2, 99, 0, 1), 0, 9, 1, 9);
            dueSkills(seenOnce(5, 99, 0, 1), 0, 9, 1, 9);
            dueSkills(seenOnce(5, 98, 0, 1), 0, 0, NONE, NONE);
        });
        test(words, "what kinds hold at a bound, and where they turn", () -> {
            dueSkills(seenOnce(2, 3, 0, 1), 0, 3, 1, 3);
            dueSkills(seenOnce(2, 3, 1, 1), 0, 4, 1, 4);
            dueSkills(seenOnce(3, 1, 12, 1), 0, 7, 1, 7);
            dueSkills(seenOnce(3, 2, 12, 1), 0, 1, 1, 1);
            dueSkills(seenOnce(4, 2, 5, 0), 0, 0, NONE, NONE);
            dueSkills(seenOnce(4, 3, 5, 0), 0, 4, 6, 9);
            dueSkills(seenOnce(5, 4, 5, 1), 0, 9, 1, 9);
            dueSkills(seenOnce(5, 5, 9, 1), 0, 5, 1, 5);
        });
    }

    private static void skilled() {
        String words = "SKILLED for a MAN: SKILLS (1 .. 9) by which, his KIND as it is, all SEEN of him are so: how many; "
            + "the least; the greatest (NONE: none).";
        test(words, "nothing seen: all nine", () -> dueSkills(kinds(0), 0, 9, 1, 9));
        test(words, "1 alone", () -> dueSkills(seenOnce(0, 0, 1, 1), 0, 1, 1, 1));
        test(words, "9 alone", () -> dueSkills(seenOnce(0, 0, 8, 0), 0, 1, 9, 9));
        test(words, "all of them are so, not one of them", () -> {
            LeftBehind x = seenOnce(0, 0, 6, 1);
            x.seen(0, 0, 2, 0);
            dueSkills(x, 0, 4, 3, 6);
            x.seen(0, 0, 4, 1);
            x.seen(0, 0, 3, 0);
            dueSkills(x, 0, 1, 4, 4);
            x.seen(0, 0, 3, 1);
            dueSkills(x, 0, 0, NONE, NONE);
        });
        test(words, "of him alone", () -> {
            LeftBehind x = kinds(0, 0, 0, 0, 0, 0, 0, 0);
            x.seen(0, 0, 4, 1);
            x.seen(7, 0, 8, 0);
            dueSkills(x, 0, 4, 1, 4);
            dueSkills(x, 1, 9, 1, 9);
            dueSkills(x, 7, 1, 9, 9);
        });
        test(words, "the first seen and the fifth count alike", () -> {
            LeftBehind x = kinds(0, 0);
            x.seen(0, 0, 8, 1);
            for (int i = 0; i < 3; i++) {
                x.seen(1, 0, 0, 0);
            }
            x.seen(0, 0, 7, 0);
            dueSkills(x, 0, 1, 8, 8);
        });
        test(words, "his own skill is not asked", () -> {
            LeftBehind x = bare();
            x.man(0, 9, NONE);
            x.seen(0, 0, 4, 1);
            dueSkills(x, 0, 4, 1, 4);
        });
    }

    private static void tell() {
        String words = "TELL: 100 c and l (c 0 .. 5, l 0 .. 30) by which, left or not, the greater part of these is least; "
            + "of like ones the least; none: no SKILL.";
        test(words, "all nine: 4 are left, 5 not", () -> {
            int[] due = {4, 9, 4, 9, 304, 13};
            for (int kind = 0; kind < 6; kind++) {
                due("kind " + kind, kinds(kind).tell(0), due[kind]);
            }
        });
        test(words, "one skill: 0, the least of all", () -> {
            due("1", seenOnce(0, 0, 1, 1).tell(0), 0);
            due("9", seenOnce(0, 0, 8, 0).tell(0), 0);
            due("a Cadiz man", seenOnce(4, 3, 8, 0).tell(0), 0);
        });
        test(words, "two skills at each end", () -> {
            due("1 and 2", seenOnce(0, 0, 2, 1).tell(0), 1);
            due("8 and 9", seenOnce(0, 0, 7, 0).tell(0), 8);
            due("8 and 9 of a captain", seenOnce(5, 0, 16, 0).tell(0), 17);
            due("8 and 9 of a Cadiz man", seenOnce(4, 3, 7, 0).tell(0), 308);
        });
        test(words, "of an odd number the lower l", () -> {
            due("1 to 3", seenOnce(0, 0, 3, 1).tell(0), 1);
            due("7 to 9", seenOnce(0, 0, 6, 0).tell(0), 7);
            due("1 to 5", seenOnce(0, 0, 5, 1).tell(0), 2);
        });
        test(words, "none: no skill", () -> due(seenOnce(0, 0, 0, 1).tell(0), NONE));
    }

    private static LeftBehind oneShip() {
        return manned(0, 0);
    }

    private static void notes() {
        String words = "NOTES 0 .. 5, as they come: a SHIP NEEDED x (0 .. 99) to sail d (1 .. 30) with n (0 .. 8) MEN.";
        test(words, "six, and then it is full", () -> {
            LeftBehind x = oneShip();
            for (int i = 1; i <= 6; i++) {
                due("note", x.note(0, 1, 0, 2), i);
            }
            due("one more", x.note(0, 1, 0, 2), FULL);
        });
        test(words, "x 0 and 99 are no kind's", () -> {
            LeftBehind x = oneShip();
            due("0", x.note(0, 1, 8, 0), 1);
            due("kinds", x.is(0), 0);
            x.forget(1);
            due("99", x.note(0, 30, 8, 99), 1);
            due("kinds", x.is(0), 0);
        });
        test(words, "d 1 and 30, n 0 and 8", () -> {
            dueIs(1, 0, 2, 1 + 16);
            dueIs(1, 8, 7, 16);
            dueIs(30, 0, 60, 1 + 16);
            dueIs(30, 8, 65, 16);
        });
    }

    private static LeftBehind noted(int d, int n, int needed) {
        LeftBehind x = oneShip();
        due("noted", x.note(0, d, n, needed), 1);
        return x;
    }

    private static void dueIs(int d, int n, int needed, int kinds) {
        due(needed + " to sail " + d + " with " + n, noted(d, n, needed).is(0), kinds);
    }

    private static void kindsOfShips() {
        String is = "IS: KINDS (bits) by which all NOTES of one are so.";
        test(is, "no note: all six", () -> due(oneShip().is(0), 63));
        test(is, "no kind", () -> dueIs(1, 0, 3, 0));
        test(is, "each kind's bounds", () -> {
            dueIs(1, 0, 6, 2 + 8);
            dueIs(1, 2, 2, 1 + 8 + 16);
            dueIs(1, 3, 1, 4 + 8 + 32);
            dueIs(6, 8, 1, 8);
            dueIs(1, 3, 2, 1 + 16);
            dueIs(1, 4, 2, 1);
            dueIs(10, 2, 9, 32);
            dueIs(9, 2, 9, 4 + 32);
            dueIs(10, 3, 10, 4 + 32);
        });
        test(is, "all of them, not one of them", () -> {
            LeftBehind x = noted(1, 0, 2);
            x.note(0, 1, 4, 7);
            due("packet", x.is(0), 16);
            x.note(0, 1, 4, 6);
            due("no kind", x.is(0), 0);
        });
        test(is, "of one alone, the first note and the sixth", () -> {
            LeftBehind x = plain(aboard(), aboard(), aboard());
            x.note(0, 1, 0, 2);
            for (int i = 0; i < 4; i++) {
                x.note(2, 1, 0, 3);
            }
            x.note(0, 1, 4, 2);
            due("the first ship", x.is(0), 1);
            due("the second", x.is(1), 63);
            due("the last", x.is(2), 0);
        });
        String look = "LOOK: 10 d and n (d 1 .. 30, n 0 .. 8) by which the most of these KINDS that NEED as much are fewest; "
            + "of like ones the least; none: no KIND.";
        test(look, "all six: two at the most at once", () -> due(oneShip().look(0), 10));
        test(look, "one kind: the least of all", () -> {
            due("packet", noted(1, 4, 7).look(0), 10);
            due("boat", noted(10, 2, 9).look(0), 10);
        });
        test(look, "plain and packet: n 4", () -> due(noted(1, 0, 2).look(0), 14));
        test(look, "brig and whaler: n 1", () -> due(noted(1, 0, 6).look(0), 11));
        test(look, "sloop and boat: d 10", () -> due(noted(9, 2, 9).look(0), 100));
        test(look, "sloop, whaler and boat: d 10", () -> due(noted(1, 3, 1).look(0), 100));
        test(look, "none: no kind", () -> due(noted(1, 0, 3).look(0), NONE));
    }

    private static void marks() {
        String words = "MARKS 0 .. 5, as they come: a MAN of SKILL s (1 .. 9) was LIKED by x (0 .. 40) behind c (0 .. 99) CALLS.";
        test(words, "six, and then it is full", () -> {
            LeftBehind x = kinds(0);
            for (int i = 1; i <= 6; i++) {
                due("mark", x.mark(0, 1, 0, 1), i);
            }
            due("one more", x.mark(0, 1, 0, 1), FULL);
        });
        test(words, "s 1 and 9, c 0 and 99", () -> {
            dueKinds(1, 0, 1, 1 + 4);
            dueKinds(9, 0, 9, 1 + 4);
            dueKinds(1, 99, 1, 1 + 16);
            dueKinds(9, 99, 28, 8);
            dueKinds(9, 99, 0, 4 + 32);
        });
        test(words, "x 0 and 40", () -> {
            dueKinds(9, 0, 0, 16);
            dueKinds(9, 2, 40, 0);
        });
    }

    private static LeftBehind marked(int s, int c, int liked) {
        LeftBehind x = kinds(0);
        due("marked", x.mark(0, s, c, liked), 1);
        return x;
    }

    private static void dueKinds(int s, int c, int liked, int kinds) {
        due("skill " + s + " liked by " + liked + " behind " + c, marked(s, c, liked).kinds(0), kinds);
    }

    private static void kindsOfMen() {
        String what = "WHAT: KINDS of MEN (bits) by which all MARKS of one are so.";
        test(what, "no mark: all six", () -> due(kinds(0).kinds(0), 63));
        test(what, "no kind", () -> dueKinds(9, 0, 40, 0));
        test(what, "each kind's bounds", () -> {
            dueKinds(4, 3, 1, 4);
            dueKinds(4, 4, 0, 4 + 32);
            dueKinds(4, 5, 0, 4);
            dueKinds(4, 1, 9, 2 + 8);
            dueKinds(4, 2, 9, 2);
            dueKinds(4, 2, 18, 8);
            dueKinds(4, 2, 0, 16);
            dueKinds(4, 3, 4, 1 + 16);
            dueKinds(4, 3, 10, 32);
            dueKinds(4, 5, 9, 2 + 32);
        });
        test(what, "all of them, not one of them", () -> {
            LeftBehind x = marked(4, 0, 4);
            x.mark(0, 4, 1, 3);
            due("mate", x.kinds(0), 4);
            x.mark(0, 4, 1, 4);
            due("no kind", x.kinds(0), 0);
        });
        test(what, "of one alone, the first mark and the sixth", () -> {
            LeftBehind x = kinds(0, 0, 0, 0, 0, 0, 0, 0);
            x.mark(0, 4, 0, 4);
            for (int i = 0; i < 4; i++) {
                x.mark(7, 4, 0, 40);
            }
            x.mark(0, 4, 1, 4);
            due("man 0", x.kinds(0), 1);
            due("man 1", x.kinds(1), 63);
            due("man 7", x.kinds(7), 0);
        });
        String ask = "ASK: CALLS c (0 .. 9) by which, his SKILL as it is, the most of these KINDS that are LIKED alike are fewest; "
            + "of like ones the least; none: no KIND.";
        test(ask, "all six, of skill 1 and of skill 9", () -> {
            due("1", kinds(0).ask(0), 0);
            LeftBehind x = bare();
            x.man(5, 9, NONE);
            due("9", x.ask(0), 2);
        });
        test(ask, "one kind: 0, the least of all", () -> due(marked(9, 99, 28).ask(0), 0));
        test(ask, "plain and mate: 1", () -> due(marked(1, 0, 1).ask(0), 1));
        test(ask, "cook and bosun: 2", () -> due(marked(4, 1, 9).ask(0), 2));
        test(ask, "plain and Cadiz: 0", () -> due(marked(4, 3, 4).ask(0), 0));
        test(ask, "none: no kind", () -> due(marked(9, 0, 40).ask(0), NONE));
    }

    /** A packet with four aboard: to sail 12 she can not now, but behind a call. */
    private static void addPacketMen(LeftBehind x, int h) {
        for (int skill : aboard(9, 9, 9, 1)) {
            x.man(0, skill, h);
        }
    }

    private static void water() {
        String words = "WATER: two unlike SHIPS a, b each CALL now (1) or go on (0), d (1 .. 30) being to sail: "
            + "to who calls 6, if she CAN sail d behind it, else -4; to who goes on 2, if she CAN now, else -2; "
            + "3 less to each, if both call: pairs that rest (bits: 0 none calls, 1 a, 2 b, 3 both; "
            + "neither would get more by doing otherwise).";
        test(words, "both can behind a call: both call", () -> due(plain(aboard(9, 1), aboard(9, 1)).water(0, 1, 4), 8));
        test(words, "as much behind the call as she needs, and one less", () -> {
            LeftBehind x = plain(aboard(8, 1), aboard(7, 1));
            due("d 4", x.water(0, 1, 4), 2);
            due("d 3", x.water(0, 1, 3), 8);
            due("the other way round", x.water(1, 0, 4), 4);
        });
        test(words, "neither can behind a call, both can now: none calls", () -> due(plain(aboard(9), aboard(9)).water(0, 1, 1), 1));
        test(words, "neither can at all: none calls", () -> due(plain(aboard(9), aboard(9)).water(0, 1, 30), 1));
        test(words, "d 1 and 30", () -> {
            LeftBehind x = bare();
            x.ship(5);
            x.ship(5);
            for (int m = 0; m < 4; m++) {
                x.man(0, 9, m % 2);
            }
            due("1", x.water(0, 1, 1), 8);
            due("30", x.water(0, 1, 30), 8);
        });
        test(words, "one only behind a call, the other not at all", () -> {
            LeftBehind x = bare();
            x.ship(4);
            x.ship(0);
            addPacketMen(x, 0);
            due("a", x.water(0, 1, 12), 2);
            due("b", x.water(1, 0, 12), 4);
        });
        test(words, "both only behind a call", () -> {
            LeftBehind x = bare();
            x.ship(4);
            x.ship(4);
            addPacketMen(x, 0);
            addPacketMen(x, 1);
            due(x.water(0, 1, 12), 8);
        });
        test(words, "the first ship and the last", () -> {
            LeftBehind x = plain(aboard(9, 1), aboard(), aboard(9));
            due("a", x.water(0, 2, 1), 2);
            due("b", x.water(2, 0, 1), 4);
        });
        String nobody = "Who has nobody ABOARD CAN not, calling or not.";
        test(nobody, "one", () -> {
            LeftBehind x = plain(aboard(), aboard(9, 9));
            due("a", x.water(0, 1, 1), 4);
            due("b", x.water(1, 0, 1), 2);
        });
        test(nobody, "both", () -> due(plain(aboard(), aboard()).water(0, 1, 1), 1));
        test(nobody, "the last one would be left by it", () -> due(plain(aboard(9), aboard()).water(0, 1, 1), 1));
    }

    private static void dueLots(LeftBehind x, int m, int n, int above, int below) {
        due("answer, " + n + " calls", x.lots(m, n), 1);
        due("above, " + n + " calls", x.part(0), above);
        due("below, " + n + " calls", x.part(1), below);
    }

    private static void lots() {
        String words = "LOTS: n (0 .. 8) CALLS of a SHIP from now on, each leaving one of those ABOARD by lot, all alike: "
            + "the chance that a MAN ABOARD her is left by them (more CALLS than MEN: he is): THE FRACTION.";
        test(words, "no call", () -> dueLots(manned(0, 8), 0, 0, 0, 1));
        test(words, "one man", () -> {
            dueLots(manned(0, 1), 0, 0, 0, 1);
            dueLots(manned(0, 1), 0, 1, 1, 1);
            dueLots(manned(0, 1), 0, 2, 1, 1);
            dueLots(manned(0, 1), 0, 8, 1, 1);
        });
        test(words, "one call fewer than men, as many, one more", () -> {
            dueLots(manned(0, 3), 2, 2, 2, 3);
            dueLots(manned(0, 3), 2, 3, 1, 1);
            dueLots(manned(0, 3), 2, 4, 1, 1);
        });
        test(words, "eight men", () -> {
            LeftBehind x = manned(0, 8);
            int[] above = {0, 1, 1, 3, 1, 5, 3, 7, 1};
            int[] below = {1, 8, 4, 8, 2, 8, 4, 8, 1};
            for (int n = 0; n <= 8; n++) {
                dueLots(x, 7, n, above[n], below[n]);
            }
        });
        test(words, "of her men alone, whoever is liked", () -> {
            LeftBehind x = plain(aboard(1, 9, 9), aboard(5));
            x.man(0, 1, NONE);
            dueLots(x, 0, 1, 1, 3);
            dueLots(x, 1, 1, 1, 3);
            dueLots(x, 3, 1, 1, 1);
        });
    }

    private static void centuries() {
        String by = "CENTURIES by a SEED (0 .. 999999), n (0 .. 60):";
        test(by, "seeds 0 and 999999, n 0 and 60", () -> {
            LeftBehind x = plain(aboard(9));
            x.man(0, 3, NONE);
            due("n 0 of 0", x.centuries(0, 0), 3);
            due("n 0 of 999999", x.centuries(999999, 0), 3);
            due("n 60 of 0", crowded().centuries(0, 60), lived(Edge::crowded, 0, 60).count(3));
            due("n 60 of 999999", crowded().centuries(999999, 60), lived(Edge::crowded, 999999, 60).count(3));
            bad(Edge::busy, y -> y.centuries(-1, 0), y -> y.centuries(1000000, 0), y -> y.centuries(0, -1), y -> y.centuries(0, 61));
        });
    }

    private static void centuriesShips() {
        String ship = "SHIP X by 65536 (cut), by 3 left over (not there: nothing), with Y as X by 1048576 (cut), by 16 left over:";
        test(ship, "ship 1 of one, calling and boarding", () -> {
            LeftBehind x = plain(aboard(9));
            x.man(0, 3, NONE);
            due("calling", x.centuries(42, 1), 3);
            due("boarding", x.centuries(35, 1), 3);
        });
        test(ship, "ship 1 of two", () -> {
            LeftBehind x = plain(aboard(), aboard(9));
            x.man(0, 3, NONE);
            due("calling", x.centuries(42, 1), 12);
            due("boarding", x.centuries(35, 1), 0);
        });
        test(ship, "ship 2 of two, and of three", () -> {
            due("of two", plain(aboard(), aboard(9)).centuries(2, 1), 0);
            due("of three", plain(aboard(), aboard(), aboard(9)).centuries(2, 1), 9);
        });
        test(ship, "no ship at all", () -> {
            LeftBehind x = kinds(0);
            due("boarding", x.centuries(0, 1), 1);
            due("sixty", x.centuries(999999, 60), 1);
        });
        test(ship, "cut: X next to where the cut falls", () -> {
            due("ship 0, not 1", plain(aboard(9, 4), aboard(5), aboard(5)).centuries(175, 1), 4);
            due("ship 0, not 2", plain(aboard(9, 4), aboard(5), aboard(5)).centuries(144, 1), 4);
            due("Y 8, not 7", plain(aboard(9, 4)).centuries(47840, 1), 4);
            due("Y 7, not 8", plain(aboard(9, 4)).centuries(46815, 1), 0);
        });
        test(ship, "X as it is cut without a rest, X one less", () -> {
            LeftBehind x = plain(aboard());
            for (int skill : aboard(9, 1, 1, 1, 1, 5)) {
                x.man(0, skill, NONE);
            }
            due("Y 5, nothing over", x.centuries(501379, 1), 18 - 5);
            due("Y 0, 1048575 over", x.centuries(899870, 1), 18 - 9);
        });
    }

    private static void centuriesDoings() {
        String calling = "Y 8 or more: CALLS, if somebody is ABOARD;";
        test(calling, "8 and 15", () -> {
            due("8", plain(aboard(9, 4)).centuries(11, 1), 4);
            due("15", plain(aboard(9, 4)).centuries(9, 1), 4);
        });
        test(calling, "7 is no call", () -> due(plain(aboard(9, 4)).centuries(29, 1), 0));
        test(calling, "nobody is aboard", () -> {
            LeftBehind x = plain(aboard());
            x.man(0, 3, NONE);
            due("8", x.centuries(11, 1), 3);
            due("15", x.centuries(9, 1), 3);
        });
        String boarding = "else MAN Y BOARDS her, if he is there and on THE ISLAND (what can not be done is not):";
        test(boarding, "man 0 and man 7", () -> {
            LeftBehind x = plain(aboard());
            for (int skill : aboard(9, 1, 1, 1, 1, 1, 1, 2)) {
                x.man(0, skill, NONE);
            }
            due("0", x.centuries(0, 1), 17 - 9);
            due("7", x.centuries(29, 1), 17 - 2);
        });
        test(boarding, "man 7 of seven is not there", () -> {
            LeftBehind x = plain(aboard());
            for (int m = 0; m < 7; m++) {
                x.man(0, 1, NONE);
            }
            due("7", x.centuries(29, 1), 7);
            due("6", x.centuries(16, 1), 6);
        });
        test(boarding, "he is aboard her, or another", () -> {
            due("her", plain(aboard(9)).centuries(0, 1), 0);
            LeftBehind x = plain(aboard(), aboard(9, 1));
            due("another: he stays there, and is left by her call", x.centuries(0, 1), 0);
            due("where he is", x.of(0, 2), 1);
        });
        test("SKILLS on THE ISLAND together behind them.", "nobody there, all there", () -> {
            due("nobody", plain(aboard(9)).centuries(0, 0), 0);
            LeftBehind x = bare();
            for (int m = 0; m < 8; m++) {
                x.man(0, 9, NONE);
            }
            due("all", x.centuries(0, 0), 72);
        });
    }

    /** Does with calls and boards what n steps of the seed do; what can not be done is refused. */
    private static LeftBehind lived(Supplier<LeftBehind> build, int seed, int n) {
        LeftBehind x = build.get();
        BigInteger number = BigInteger.valueOf(seed);
        for (int i = 0; i < n; i++) {
            number = number.multiply(TIMES).add(MORE).mod(OVER);
            int h = number.divide(BigInteger.valueOf(65536)).mod(BigInteger.valueOf(3)).intValue();
            int y = number.divide(BigInteger.valueOf(1048576)).mod(BigInteger.valueOf(16)).intValue();
            if (y >= 8) {
                x.calls(h);
            } else {
                x.boards(h, y);
            }
        }
        return x;
    }

    /** A ship that made 96 calls, with captains aboard, whom a hundredth call would make liked again. */
    private static LeftBehind about99() {
        LeftBehind x = manBehind(5, 9, 96);
        x.ship(1);
        for (int m = 1; m < 8; m++) {
            x.man(m % 2 == 0 ? 5 : 0, m, m < 6 ? 0 : NONE);
        }
        return x;
    }

    private static void centuriesStepByStep() {
        String words = "X is SEED at first; n times X becomes X times 1103515245 and 12345, by 2147483648 what is left over;";
        for (int seed : aboard(0, 1, 12345, 500000, 999998, 999999)) {
            test(words, "as calls and boardings do it, seed " + seed, () -> {
                for (int n = 0; n <= 60; n++) {
                    due(n + " steps", crowded().centuries(seed, n), lived(Edge::crowded, seed, n).count(3));
                }
            });
            test(words, "about 99 calls, where they are held, seed " + seed, () -> {
                for (int n = 0; n <= 60; n++) {
                    due(n + " steps", about99().centuries(seed, n), lived(SkillEdges::about99, seed, n).count(3));
                }
            });
        }
    }

    private static void seenRefused() {
        test("SEEN: how many there are.", "the first, the last", () -> {
            due("the first", kinds(0).seen(0, 99, 30, 1), 1);
            LeftBehind x = kinds(0, 0);
            for (int i = 1; i <= 5; i++) {
                due("of two men", x.seen(i % 2, 0, 0, 0), i);
            }
        });
        String words = "BAD; FULL: 5.";
        test(words, "man -1, and the one behind the last", () -> bad(Edge::busy, x -> x.seen(-1, 0, 0, 0), x -> x.seen(4, 0, 0, 0),
            x -> x.seen(LOWEST, 0, 0, 0), x -> x.seen(HIGHEST, 0, 0, 0)));
        test(words, "c -1 and 100", () -> bad(Edge::busy, x -> x.seen(0, -1, 0, 0), x -> x.seen(0, 100, 0, 0),
            x -> x.seen(0, LOWEST, 0, 0), x -> x.seen(0, HIGHEST, 0, 0)));
        test(words, "l -1 and 31", () -> bad(Edge::busy, x -> x.seen(0, 0, -1, 0), x -> x.seen(0, 0, 31, 0),
            x -> x.seen(0, 0, LOWEST, 0), x -> x.seen(0, 0, HIGHEST, 0)));
        test(words, "left -1 and 2", () -> bad(Edge::busy, x -> x.seen(0, 0, 0, -1), x -> x.seen(0, 0, 0, 2),
            x -> x.seen(0, 0, 0, LOWEST), x -> x.seen(0, 0, 0, HIGHEST)));
        test(words, "the ends are not", () -> {
            due("low", busy().seen(0, 0, 0, 0), 3);
            due("high", busy().seen(3, 99, 30, 1), 3);
        });
        test(words, "a 6th", () -> full(Edge::crowded, x -> x.seen(0, 0, 0, 0), x -> x.seen(7, 99, 30, 1)));
        test(words, "a bad 6th is BAD", () -> bad(Edge::crowded, x -> x.seen(8, 0, 0, 0), x -> x.seen(0, 100, 0, 0),
            x -> x.seen(0, 0, 31, 0), x -> x.seen(0, 0, 0, 2)));
    }

    private static void skilledRefused() {
        test("SKILLED: how many (0), the least (1), the greatest (2). NONE.", "0 and NONE are no refusals", () -> {
            changesNothing(() -> seenOnce(0, 0, 0, 1), 0, x -> x.skilled(0, 0));
            changesNothing(() -> seenOnce(0, 0, 0, 1), NONE, x -> x.skilled(0, 1), x -> x.skilled(0, 2));
        });
        test("BAD.", "man -1, and the one behind the last", () -> bad(Edge::busy, x -> x.skilled(-1, 0), x -> x.skilled(4, 0),
            x -> x.skilled(LOWEST, 0), x -> x.skilled(HIGHEST, 0)));
        test("BAD.", "what -1 and 3", () -> bad(Edge::busy, x -> x.skilled(0, -1), x -> x.skilled(0, 3), x -> x.skilled(0, LOWEST),
            x -> x.skilled(0, HIGHEST)));
        test("BAD.", "a bad what where no skill fits", () -> bad(() -> seenOnce(0, 0, 0, 1), x -> x.skilled(0, -1), x -> x.skilled(0, 3)));
        test("BAD.", "man 7 is not", () -> due(crowded().skilled(7, 0), 9));
    }

    private static void tellRefused() {
        test("TELL. NONE.", "NONE is no refusal", () -> changesNothing(() -> seenOnce(0, 0, 0, 1), NONE, x -> x.tell(0)));
        test("TELL. NONE.", "of man 7", () -> due(crowded().tell(7), 9));
        test("BAD.", "man -1, and the one behind the last", () -> bad(Edge::busy, x -> x.tell(-1), x -> x.tell(4),
            x -> x.tell(LOWEST), x -> x.tell(HIGHEST)));
    }

    private static void noteRefused() {
        test("A NOTE: how many there are.", "of two ships", () -> {
            LeftBehind x = plain(aboard(), aboard());
            for (int i = 1; i <= 6; i++) {
                due("note", x.note(i % 2, 30, 8, 99), i);
            }
        });
        String words = "BAD; FULL: 6.";
        test(words, "ship -1, and the one behind the last", () -> bad(Edge::busy, x -> x.note(-1, 1, 0, 0), x -> x.note(2, 1, 0, 0),
            x -> x.note(LOWEST, 1, 0, 0), x -> x.note(HIGHEST, 1, 0, 0)));
        test(words, "d 0 and 31", () -> bad(Edge::busy, x -> x.note(0, 0, 0, 0), x -> x.note(0, 31, 0, 0),
            x -> x.note(0, LOWEST, 0, 0), x -> x.note(0, HIGHEST, 0, 0)));
        test(words, "n -1 and 9", () -> bad(Edge::busy, x -> x.note(0, 1, -1, 0), x -> x.note(0, 1, 9, 0),
            x -> x.note(0, 1, LOWEST, 0), x -> x.note(0, 1, HIGHEST, 0)));
        test(words, "x -1 and 100", () -> bad(Edge::busy, x -> x.note(0, 1, 0, -1), x -> x.note(0, 1, 0, 100),
            x -> x.note(0, 1, 0, LOWEST), x -> x.note(0, 1, 0, HIGHEST)));
        test(words, "the ends are not", () -> {
            due("low", busy().note(0, 1, 0, 0), 3);
            due("high", busy().note(1, 30, 8, 99), 3);
        });
        test(words, "a 7th", () -> full(Edge::crowded, x -> x.note(0, 1, 0, 0), x -> x.note(2, 30, 8, 99)));
        test(words, "a bad 7th is BAD", () -> bad(Edge::crowded, x -> x.note(3, 1, 0, 0), x -> x.note(0, 0, 0, 0),
            x -> x.note(0, 1, 9, 0), x -> x.note(0, 1, 0, 100)));
    }

    private static void markRefused() {
        test("A MARK: how many there are.", "of two men", () -> {
            LeftBehind x = kinds(0, 0);
            for (int i = 1; i <= 6; i++) {
                due("mark", x.mark(i % 2, 9, 99, 40), i);
            }
        });
        String words = "BAD; FULL: 6.";
        test(words, "man -1, and the one behind the last", () -> bad(Edge::busy, x -> x.mark(-1, 1, 0, 0), x -> x.mark(4, 1, 0, 0),
            x -> x.mark(LOWEST, 1, 0, 0), x -> x.mark(HIGHEST, 1, 0, 0)));
        test(words, "s 0 and 10", () -> bad(Edge::busy, x -> x.mark(0, 0, 0, 0), x -> x.mark(0, 10, 0, 0),
            x -> x.mark(0, LOWEST, 0, 0), x -> x.mark(0, HIGHEST, 0, 0)));
        test(words, "c -1 and 100", () -> bad(Edge::busy, x -> x.mark(0, 1, -1, 0), x -> x.mark(0, 1, 100, 0),
            x -> x.mark(0, 1, LOWEST, 0), x -> x.mark(0, 1, HIGHEST, 0)));
        test(words, "x -1 and 41", () -> bad(Edge::busy, x -> x.mark(0, 1, 0, -1), x -> x.mark(0, 1, 0, 41),
            x -> x.mark(0, 1, 0, LOWEST), x -> x.mark(0, 1, 0, HIGHEST)));
        test(words, "the ends are not", () -> {
            due("low", busy().mark(0, 1, 0, 0), 2);
            due("high", busy().mark(3, 9, 99, 40), 2);
        });
        test(words, "a 7th", () -> full(Edge::crowded, x -> x.mark(0, 1, 0, 0), x -> x.mark(7, 9, 99, 40)));
        test(words, "a bad 7th is BAD", () -> bad(Edge::crowded, x -> x.mark(8, 1, 0, 0), x -> x.mark(0, 10, 0, 0),
            x -> x.mark(0, 1, 100, 0), x -> x.mark(0, 1, 0, 41)));
    }

    private static void forget() {
        String words = "No SEEN ones (0), NOTES (1), MARKS (2): how many there were.";
        test(words, "none", () -> changesNothing(Edge::bare, 0, x -> x.forget(0), x -> x.forget(1), x -> x.forget(2)));
        test(words, "full rows, each alone", () -> {
            LeftBehind x = crowded();
            due("notes", x.forget(1), 6);
            due("the others", 100 * x.count(5) + 10 * x.count(6) + x.count(7), 506);
            due("marks", x.forget(2), 6);
            due("the other", 100 * x.count(5) + 10 * x.count(6) + x.count(7), 500);
            due("seen", x.forget(0), 5);
            due("none", 100 * x.count(5) + 10 * x.count(6) + x.count(7), 0);
            due("again", x.forget(0), 0);
        });
        test(words, "a full row takes as many again", () -> {
            LeftBehind x = crowded();
            x.forget(0);
            for (int i = 1; i <= 5; i++) {
                due("seen", x.seen(0, 0, 0, 0), i);
            }
            due("one more", x.seen(0, 0, 0, 0), FULL);
        });
        test(words, "what is forgotten is not asked", () -> {
            LeftBehind x = seenOnce(0, 0, 0, 1);
            x.mark(0, 9, 0, 40);
            x.forget(0);
            x.forget(2);
            due("skills", x.skilled(0, 0), 9);
            due("kinds", x.kinds(0), 63);
            LeftBehind y = noted(1, 0, 3);
            y.forget(1);
            due("kinds of ships", y.is(0), 63);
        });
        test(words, "what may be undone stays", () -> {
            LeftBehind x = crowded();
            x.forget(0);
            x.forget(1);
            x.forget(2);
            due("steps", x.count(8), 8);
            due("undo", x.undo(), 3);
        });
        test("BAD.", "what -1 and 3", () -> bad(Edge::crowded, x -> x.forget(-1), x -> x.forget(3), x -> x.forget(LOWEST),
            x -> x.forget(HIGHEST)));
    }

    private static void looksRefused() {
        at("Promise 26: is");
        test("IS, as bits.", "0 is no refusal", () -> changesNothing(() -> noted(1, 0, 3), 0, x -> x.is(0)));
        test("BAD.", "ship -1, and the one behind the last", () -> bad(Edge::busy, x -> x.is(-1), x -> x.is(2), x -> x.is(LOWEST),
            x -> x.is(HIGHEST)));
        test("BAD.", "ship 3 of three", () -> bad(Edge::crowded, x -> x.is(3)));
        at("Promise 27: look");
        test("LOOK. NONE.", "NONE is no refusal", () -> changesNothing(() -> noted(1, 0, 3), NONE, x -> x.look(0)));
        test("BAD.", "ship -1, and the one behind the last", () -> bad(Edge::busy, x -> x.look(-1), x -> x.look(2),
            x -> x.look(LOWEST), x -> x.look(HIGHEST)));
        test("BAD.", "ship 3 of three", () -> bad(Edge::crowded, x -> x.look(3)));
        at("Promise 28: kinds");
        test("WHAT, as bits.", "0 is no refusal", () -> changesNothing(() -> marked(9, 0, 40), 0, x -> x.kinds(0)));
        test("BAD.", "man -1, and the one behind the last", () -> bad(Edge::busy, x -> x.kinds(-1), x -> x.kinds(4),
            x -> x.kinds(LOWEST), x -> x.kinds(HIGHEST)));
        test("BAD.", "man 8 of eight", () -> bad(Edge::crowded, x -> x.kinds(8)));
        at("Promise 29: ask");
        test("ASK. NONE.", "NONE is no refusal", () -> changesNothing(() -> marked(9, 0, 40), NONE, x -> x.ask(0)));
        test("BAD.", "man -1, and the one behind the last", () -> bad(Edge::busy, x -> x.ask(-1), x -> x.ask(4),
            x -> x.ask(LOWEST), x -> x.ask(HIGHEST)));
        test("BAD.", "man 8 of eight", () -> bad(Edge::crowded, x -> x.ask(8)));
    }

    private static void waterRefused() {
        test("WATER, as bits.", "ships 0 and 2 are the ends", () -> looksOnly(Edge::crowded, x -> x.water(0, 2, 1), x -> x.water(2, 0, 30)));
        String words = "BAD: alike a, b, too.";
        test(words, "alike", () -> bad(Edge::busy, x -> x.water(0, 0, 1), x -> x.water(1, 1, 1)));
        test(words, "a -1, and the one behind the last", () -> bad(Edge::busy, x -> x.water(-1, 0, 1), x -> x.water(2, 0, 1),
            x -> x.water(LOWEST, 0, 1), x -> x.water(HIGHEST, 0, 1)));
        test(words, "b -1, and the one behind the last", () -> bad(Edge::busy, x -> x.water(0, -1, 1), x -> x.water(0, 2, 1),
            x -> x.water(0, LOWEST, 1), x -> x.water(0, HIGHEST, 1)));
        test(words, "d 0 and 31", () -> bad(Edge::busy, x -> x.water(0, 1, 0), x -> x.water(0, 1, 31), x -> x.water(0, 1, LOWEST),
            x -> x.water(0, 1, HIGHEST)));
        test(words, "one ship alone", () -> bad(() -> manned(0, 8), x -> x.water(0, 0, 1), x -> x.water(0, 1, 1)));
    }

    private static void lotsRefused() {
        test("LOTS are THE FRACTION: 1.", "it alone is changed", () -> {
            LeftBehind x = busy();
            x.lots(0, 1);
            alike("the same lots again", x, busy());
            due("answer", busy().lots(2, 8), 1);
        });
        test("LOTS are THE FRACTION: 1.", "the last ones, not the first", () -> {
            LeftBehind x = manned(0, 8);
            x.lots(0, 8);
            x.lots(0, 1);
            due(10 * x.part(0) + x.part(1), 18);
        });
        String words = "BAD; NO: he is not ABOARD a SHIP.";
        test(words, "man -1, and the one behind the last", () -> bad(Edge::busy, x -> x.lots(-1, 1), x -> x.lots(4, 1),
            x -> x.lots(LOWEST, 1), x -> x.lots(HIGHEST, 1)));
        test(words, "n -1 and 9", () -> bad(Edge::busy, x -> x.lots(0, -1), x -> x.lots(0, 9), x -> x.lots(0, LOWEST),
            x -> x.lots(0, HIGHEST)));
        test(words, "n 0 and 8 are not", () -> {
            due("0", busy().lots(0, 0), 1);
            due("8", busy().lots(0, 8), 1);
        });
        test(words, "he is on the island", () -> no(Edge::busy, x -> x.lots(1, 0), x -> x.lots(3, 1), x -> x.lots(3, 8)));
        test(words, "a bad n of one on the island", () -> bad(Edge::busy, x -> x.lots(1, -1), x -> x.lots(1, 9)));
    }

    private static void centuriesRefused() {
        test("CENTURIES.", "seeds 0 and 999999, n 0 and 60 are the ends", () -> looksOnly(Edge::busy, x -> x.centuries(0, 0),
            x -> x.centuries(0, 60), x -> x.centuries(999999, 0), x -> x.centuries(999999, 60)));
        test("CENTURIES.", "nobody there", () -> changesNothing(Edge::bare, 0, x -> x.centuries(999999, 60)));
        test("BAD.", "seed -1 and 1000000", () -> bad(Edge::busy, x -> x.centuries(-1, 0), x -> x.centuries(1000000, 0),
            x -> x.centuries(LOWEST, 0), x -> x.centuries(HIGHEST, 0)));
        test("BAD.", "n -1 and 61", () -> bad(Edge::busy, x -> x.centuries(0, -1), x -> x.centuries(0, 61),
            x -> x.centuries(0, LOWEST), x -> x.centuries(0, HIGHEST)));
    }
}
