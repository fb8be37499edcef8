/** The terms, sentence by sentence: ships, men, their kinds, calls, boarding, sailing. (The text's are in TextEdges.) */
final class TermEdges extends Edge {
    private TermEdges() {
    }

    static void run() {
        at("Terms");
        ships();
        men();
        plainAndBrig();
        sloop();
        whaler();
        packet();
        boat();
        plainMen();
        mates();
        bosuns();
        cadizMen();
        captains();
        aCall();
        callsAtMost();
        boarding();
        sailing();
        refusals();
    }

    private static void ships() {
        test("2, as they come: a KIND;", "the first ship is 0, the last 2, then there is none", () -> {
            LeftBehind x = bare();
            due("first", x.ship(5), 0);
            due("second", x.ship(0), 1);
            due("last", x.ship(3), 2);
            due("one more", x.ship(0), FULL);
            due("kind of the first", x.about(0, 0), 5);
            due("kind of the last", x.about(2, 0), 3);
            due("none behind the last", x.about(3, 0), BAD);
        });
        test("CALLS (0 .. 99; 0 at first).", "0 at first, also where calls were made ahead of it", () -> {
            LeftBehind x = plain(aboard(3));
            x.calls(0);
            x.ship(0);
            due("of the new one", x.about(1, 1), 0);
            due("of the old one", x.about(0, 1), 1);
            x.island();
            x.ship(0);
            due("on a new island", x.about(0, 1), 0);
        });
        test("CALLS (0 .. 99; 0 at first).", "98, 99, and no more", () -> {
            LeftBehind x = manBehind(0, 5, 98);
            due("98", x.about(0, 1), 98);
            goOn(x, 0, 0, 1);
            due("99", x.about(0, 1), 99);
            goOn(x, 0, 0, 1);
            due("held at 99", x.about(0, 1), 99);
        });
    }

    private static void men() {
        test("MEN 0 .. 7, as they come: a KIND, a SKILL (1 .. 9);", "the first man is 0, the last 7, then there is none", () -> {
            LeftBehind x = bare();
            for (int m = 0; m < 8; m++) {
                due("man " + m, x.man(m % 6, m + 1, -1), m);
            }
            due("one more", x.man(0, 1, -1), FULL);
            due("kind of the last", x.of(7, 0), 1);
            due("skill of the last", x.of(7, 1), 8);
            due("none behind the last", x.of(8, 0), BAD);
        });
        test("MEN 0 .. 7, as they come: a KIND, a SKILL (1 .. 9);", "skill 1, skill 9", () -> {
            LeftBehind x = bare();
            x.man(0, 1, -1);
            x.man(0, 9, -1);
            due("1", x.of(0, 1), 1);
            due("9", x.of(1, 1), 9);
        });
        test("each is ABOARD a SHIP (told), or on THE ISLAND.", "the first ship, the last, the island", () -> {
            LeftBehind x = plain(aboard(1), aboard(), aboard(2));
            x.man(0, 3, -1);
            due("the first", x.of(0, 2), 0);
            due("the last", x.of(1, 2), 2);
            due("the island", x.of(2, 2), NONE);
            due("how many on the island", x.count(2), 1);
        });
    }

    private static void dueNeeds(int kind, int men, int... distancesAndNeeds) {
        LeftBehind x = manned(kind, men);
        for (int i = 0; i < distancesAndNeeds.length; i += 2) {
            int d = distancesAndNeeds[i];
            due(men + " men, to sail " + d, x.needs(0, d), distancesAndNeeds[i + 1]);
        }
    }

    private static void plainAndBrig() {
        String words = "KINDS of SHIPS, each under the one told, say how much SKILL one NEEDS to sail d (1 .. 30), "
            + "n MEN being ABOARD: 0 PLAIN: twice d.";
        test(words, "nobody aboard, all eight", () -> {
            dueNeeds(0, 0, 1, 2, 30, 60);
            dueNeeds(0, 8, 1, 2, 30, 60);
        });
        test(words, "d 0 and 31", () -> bad(Edge::busy, x -> x.needs(0, 0), x -> x.needs(0, 31)));
        test("1 BRIG (under PLAIN): 4 more than PLAIN.", "nobody aboard, all eight", () -> {
            dueNeeds(1, 0, 1, 6, 30, 64);
            dueNeeds(1, 8, 1, 6, 30, 64);
        });
    }

    private static void sloop() {
        test("2 SLOOP (under PLAIN): half (cut up) of PLAIN.", "nobody aboard, all eight", () -> {
            dueNeeds(2, 0, 1, 1, 2, 2, 3, 3, 30, 30);
            dueNeeds(2, 8, 1, 1, 2, 2, 3, 3, 30, 30);
        });
    }

    private static void whaler() {
        String words = "3 WHALER (under BRIG): BRIG less twice n, 1 at least.";
        test(words, "nobody aboard: as a brig", () -> dueNeeds(3, 0, 1, 6, 30, 64));
        test(words, "less twice n", () -> dueNeeds(3, 1, 1, 4, 30, 62));
        test(words, "2 is above the least", () -> dueNeeds(3, 2, 1, 2));
        test(words, "0 is held at 1", () -> dueNeeds(3, 3, 1, 1, 2, 2));
        test(words, "below 0 is held at 1", () -> dueNeeds(3, 4, 1, 1, 2, 1, 3, 2));
        test(words, "all eight", () -> dueNeeds(3, 8, 1, 1, 6, 1, 7, 2, 30, 48));
    }

    private static void packet() {
        String words = "4 PACKET (under PLAIN): PLAIN, 5 more, if n is 4 or more.";
        test(words, "nobody aboard", () -> dueNeeds(4, 0, 1, 2, 30, 60));
        test(words, "n 3", () -> dueNeeds(4, 3, 1, 2, 30, 60));
        test(words, "n 4", () -> dueNeeds(4, 4, 1, 7, 30, 65));
        test(words, "n 5", () -> dueNeeds(4, 5, 1, 7, 30, 65));
        test(words, "all eight", () -> dueNeeds(4, 8, 1, 7, 30, 65));
    }

    private static void boat() {
        String words = "5 BOAT (under SLOOP): SLOOP, 9 at most, if n is 2 or less.";
        test(words, "nobody aboard", () -> dueNeeds(5, 0, 1, 1, 10, 9, 30, 9));
        test(words, "n 2: 8, 9, and no more", () -> dueNeeds(5, 2, 1, 1, 8, 8, 9, 9, 10, 9, 30, 9));
        test(words, "n 3: as a sloop", () -> dueNeeds(5, 3, 1, 1, 9, 9, 10, 10, 30, 30));
        test(words, "all eight", () -> dueNeeds(5, 8, 9, 9, 10, 10, 30, 30));
    }

    private static void dueLiked(int kind, int skill, int calls, int liked) {
        due("skill " + skill + " behind " + calls, manBehind(kind, skill, calls).of(0, 3), liked);
    }

    private static void plainMen() {
        String words = "KINDS of MEN, each under the one told, say how LIKED one of SKILL s is on a SHIP that made c CALLS: "
            + "0 PLAIN: s.";
        test(words, "skill 1 and 9, behind none and behind 99", () -> {
            dueLiked(0, 1, 0, 1);
            dueLiked(0, 9, 0, 9);
            dueLiked(0, 9, 99, 9);
        });
        test("1 COOK (under PLAIN): 5 more than PLAIN.", "skill 1 and 9, behind none and behind 99", () -> {
            dueLiked(1, 1, 0, 6);
            dueLiked(1, 9, 0, 14);
            dueLiked(1, 9, 99, 14);
        });
    }

    private static void mates() {
        String words = "2 MATE (under PLAIN): PLAIN less c, 0 at least.";
        test(words, "behind none", () -> dueLiked(2, 9, 0, 9));
        test(words, "1 is above the least", () -> dueLiked(2, 4, 3, 1));
        test(words, "0", () -> dueLiked(2, 4, 4, 0));
        test(words, "below 0 is held at 0", () -> dueLiked(2, 4, 5, 0));
        test(words, "behind 99", () -> dueLiked(2, 9, 99, 0));
    }

    private static void bosuns() {
        String words = "3 BOSUN (under COOK): as COOK, but twice that, if c is 2 or more.";
        test(words, "c 0", () -> dueLiked(3, 1, 0, 6));
        test(words, "c 1", () -> dueLiked(3, 9, 1, 14));
        test(words, "c 2", () -> dueLiked(3, 9, 2, 28));
        test(words, "c 3", () -> dueLiked(3, 1, 3, 12));
        test(words, "c 99", () -> dueLiked(3, 1, 99, 12));
    }

    private static void cadizMen() {
        String words = "4 CADIZ (under PLAIN): 0, if c is below 3, else PLAIN.";
        test(words, "c 0", () -> dueLiked(4, 9, 0, 0));
        test(words, "c 2", () -> dueLiked(4, 9, 2, 0));
        test(words, "c 3", () -> dueLiked(4, 9, 3, 9));
        test(words, "c 99", () -> dueLiked(4, 1, 99, 1));
    }

    private static void captains() {
        String words = "5 CAPTAIN (under MATE): MATE and 9, but 0, if c by 5 leaves 4 over.";
        test(words, "c 0", () -> dueLiked(5, 9, 0, 18));
        test(words, "c 3", () -> dueLiked(5, 9, 3, 15));
        test(words, "c 4", () -> dueLiked(5, 9, 4, 0));
        test(words, "c 5", () -> dueLiked(5, 9, 5, 13));
        test(words, "c 8 and 9", () -> {
            dueLiked(5, 9, 8, 10);
            dueLiked(5, 9, 9, 0);
        });
        test(words, "a mate of 0 and below", () -> {
            dueLiked(5, 1, 1, 9);
            dueLiked(5, 1, 2, 9);
        });
        test(words, "c 98 and 99", () -> {
            dueLiked(5, 9, 98, 9);
            dueLiked(5, 9, 99, 0);
        });
    }

    private static void aCall() {
        String words = "A CALL of a SHIP: who ABOARD is LIKED least (of like ones the least number),";
        test(words, "the last man alone is liked least", () -> due(plain(aboard(5, 4, 3, 2)).calls(0), 3));
        test(words, "of like ones the least number", () -> due(plain(aboard(5, 4, 4, 5)).calls(0), 1));
        test(words, "all alike", () -> due(plain(aboard(9, 9, 9, 9, 9, 9, 9, 9)).calls(0), 0));
        test(words, "all alike, 0 being on the island", () -> {
            LeftBehind x = plain(aboard(9, 9, 9, 9, 9, 9, 9, 9));
            x.calls(0);
            due(x.calls(0), 1);
        });
        test(words, "liked by 0, of like ones too", () -> {
            LeftBehind x = plain(aboard(1));
            x.man(4, 9, 0);
            x.man(4, 1, 0);
            due(x.calls(0), 1);
        });
        test(words, "who is on another ship or on the island is not aboard", () -> {
            LeftBehind x = plain(aboard(1), aboard(5, 9), aboard(2));
            x.man(0, 1, -1);
            due(x.calls(1), 1);
        });
        test("by CALLS ahead of it, is on THE ISLAND then;", "Cadiz men at 2 and at 3 calls", () -> {
            LeftBehind x = plain(aboard(8));
            x.man(4, 9, 0);
            goOn(x, 0, 1, 2);
            due("at 2", x.calls(0), 1);
            x.boards(0, 1);
            due("at 3", x.calls(0), 0);
            due("he is on the island", x.of(0, 2), NONE);
        });
        test("by CALLS ahead of it, is on THE ISLAND then;", "a captain at 3 and at 4 calls", () -> {
            LeftBehind x = plain(aboard(9));
            goOn(x, 0, 0, 3);
            x.man(5, 9, 0);
            due("at 3", x.calls(0), 0);
            x.boards(0, 0);
            due("at 4", x.calls(0), 1);
        });
    }

    private static void callsAtMost() {
        test("CALLS are one more (99 at most).", "of her, and of no other", () -> {
            LeftBehind x = plain(aboard(5, 5), aboard(5));
            x.calls(0);
            x.calls(0);
            due("hers", x.about(0, 1), 2);
            due("the other's", x.about(1, 1), 0);
        });
        test("CALLS are one more (99 at most).", "at 99 a call is a call, and they are held", () -> {
            LeftBehind x = manBehind(5, 9, 99);
            x.man(0, 1, 0);
            due("who is left: the captain, as 99 by 5 leaves 4", x.calls(0), 0);
            due("held", x.about(0, 1), 99);
            due("of all", x.count(4), 99);
            due("the other is left next", x.calls(0), 1);
            due("held again", x.about(0, 1), 99);
        });
    }

    private static void boarding() {
        String words = "BOARDING: one on THE ISLAND comes ABOARD a SHIP.";
        test(words, "he alone, her alone, calls as they were", () -> {
            LeftBehind x = plain(aboard(5), aboard());
            x.man(0, 1, -1);
            x.man(0, 2, -1);
            x.boards(1, 2);
            due("aboard her", x.about(1, 2), 4);
            due("aboard the other", x.about(0, 2), 1);
            due("the other man", x.of(1, 2), NONE);
            due("calls", x.count(4), 0);
        });
        test(words, "all eight come aboard one", () -> {
            LeftBehind x = bare();
            x.ship(0);
            for (int m = 0; m < 8; m++) {
                x.man(0, 9, -1);
            }
            for (int m = 0; m < 8; m++) {
                due("man " + m, x.boards(0, m), m + 1);
            }
            due("nobody on the island", x.count(2), 0);
        });
    }

    private static void sailing() {
        String words = "A SHIP CAN sail d, if the SKILLS of all ABOARD together are as much as it NEEDS, or more,";
        test(words, "one less", () -> due(plain(aboard(4, 1)).far(0), 2));
        test(words, "as much", () -> due(plain(aboard(4, 2)).far(0), 3));
        test(words, "one more", () -> due(plain(aboard(4, 3)).far(0), 3));
        test("and somebody is ABOARD.", "nobody is, on a ship of each kind", () -> {
            for (int kind = 0; kind < 6; kind++) {
                LeftBehind x = manned(kind, 0);
                due("far, kind " + kind, x.far(0), 0);
                due("lasts, kind " + kind, x.lasts(0, 1), 0);
                due("crew, kind " + kind, x.crew(1, NONE), 0);
            }
        });
        test("and somebody is ABOARD.", "one is", () -> due(manned(2, 1).far(0), 1));
    }

    private static void refusals() {
        String words = "Refused, changing nothing but STATUS, the first of: BAD -2 a number is not as told; NO -3 as told; FULL -4";
        test(words, "BAD ahead of NO", () -> bad(Edge::crowded, x -> x.boards(3, 0), x -> x.boards(-1, 0),
            x -> x.lots(2, 9), x -> x.lots(2, -1)));
        test(words, "NO where no number is bad", () -> no(Edge::crowded, x -> x.boards(0, 0), x -> x.lots(2, 8), x -> x.lots(2, 0)));
        test(words, "BAD ahead of FULL", () -> bad(Edge::crowded, x -> x.ship(6), x -> x.ship(-1), x -> x.man(6, 1, 0),
            x -> x.man(0, 10, 0), x -> x.man(0, 1, 3), x -> x.type(128), x -> x.type(-1), x -> x.seen(8, 0, 0, 0),
            x -> x.note(3, 1, 0, 0), x -> x.mark(0, 0, 0, 0)));
        test(words, "FULL where no number is bad", () -> full(Edge::crowded, x -> x.ship(0), x -> x.man(0, 1, 0), x -> x.type(32),
            x -> x.seen(0, 0, 0, 0), x -> x.note(0, 1, 0, 0), x -> x.mark(0, 1, 0, 0)));
        test(words, "many numbers bad at once are one refusal", () -> {
            bad(Edge::crowded, x -> x.man(6, 0, 3), x -> x.boards(3, 8), x -> x.of(8, 4), x -> x.about(3, 4), x -> x.needs(3, 0),
                x -> x.behind(3, 0), x -> x.lasts(3, 31), x -> x.seen(8, 100, 31, 2), x -> x.skilled(8, 3), x -> x.note(3, 31, 9, 100),
                x -> x.mark(8, 10, 100, 41), x -> x.water(3, 3, 31), x -> x.lots(8, 9), x -> x.centuries(-1, 61));
            refused(Edge::crowded, -10, 0, x -> x.few(73, 3), x -> x.crew(31, 8));
        });
        test("(where others are told they count as these).", "few's and crew's -10, status's -1", () -> {
            refused(Edge::busy, -10, 0, x -> x.few(0, 0), x -> x.few(73, 0), x -> x.crew(0, 0), x -> x.crew(31, 0));
            refused(Edge::busy, -1, 0, x -> x.status(3), x -> x.status(-1));
        });
        test("THE FRACTION is 0 by 1 at first; lowest terms, below above 0.", "at first, and 0 by 1 again", () -> {
            LeftBehind x = plain(aboard(1, 1, 1));
            due("above", x.part(0), 0);
            due("below", x.part(1), 1);
            x.lots(0, 0);
            due("above, no calls", x.part(0), 0);
            due("below, no calls", x.part(1), 1);
        });
        test("THE FRACTION is 0 by 1 at first; lowest terms, below above 0.", "6 of 8, 4 of 8, 8 of 8", () -> {
            LeftBehind x = manned(0, 8);
            x.lots(0, 6);
            due("6", 10 * x.part(0) + x.part(1), 34);
            x.lots(0, 4);
            due("4", 10 * x.part(0) + x.part(1), 12);
            x.lots(0, 8);
            due("8", 10 * x.part(0) + x.part(1), 11);
        });
    }
}
