import java.util.ArrayList;
import java.util.List;
import java.util.function.Supplier;

/**
 * What it is: the document's first words, each that names a thing the class does held against the calls that do it; what
 * they tell ahead of doing must be what comes of doing it.
 */
final class OpeningEdges extends Edge {
    private static final List<Supplier<LeftBehind>> ISLANDS = islands();

    private OpeningEdges() {
    }

    static void run() {
        at("What it is");
        island();
        whoIsLeft();
        shipsAndMen();
        calls();
        whatComesOfIt();
        few();
        crew();
        inquiry();
        water();
        odds();
        texts();
        use();
        story("the due of this lonely island, they don't want money, and a vessel that's watered there",
            "so the place is all people who were had the worst of, a cook, a third mate, someone who'd gone for fruit, "
                + "they've made a go of it, eleven tongues, a band,", "and it's a good republic,",
            "wise ones carry a fellow for it,", "he's the doctor now,",
            "some run down every time there's a sail, with their bag, to be by in case a ship was one too many, "
                + "and it was he hadn't remembered,");
    }

    /** A busy one, a full one, one of a ship with nobody aboard, and some whose ships and men are of every kind. */
    private static List<Supplier<LeftBehind>> islands() {
        List<Supplier<LeftBehind>> all = new ArrayList<>();
        all.add(Edge::busy);
        all.add(Edge::crowded);
        all.add(() -> manned(0, 0));
        for (int i = 0; i < 12; i++) {
            int mix = i;
            all.add(() -> mixed(mix));
        }
        return all;
    }

    private static LeftBehind mixed(int mix) {
        LeftBehind x = bare();
        for (int h = 0; h < 3; h++) {
            x.ship((mix + 2 * h) % 6);
        }
        for (int m = 0; m < 8; m++) {
            x.man((mix * 5 + m) % 6, 1 + (mix * 7 + m * m * 3) % 9, (mix + m * (mix % 3 + 1)) % 4 - 1);
        }
        for (int i = 0; i < mix; i++) {
            x.calls(i % 3);
            x.boards((i + mix) % 3, i % 8);
        }
        return x;
    }

    private interface OfShip {
        void look(Supplier<LeftBehind> build, int h);
    }

    private static void eachShip(OfShip look) {
        for (Supplier<LeftBehind> build : ISLANDS) {
            int ships = build.get().count(1);
            for (int h = 0; h < ships; h++) {
                look.look(build, h);
            }
        }
    }

    private static int aboardOf(LeftBehind x, int h) {
        return Integer.bitCount(x.about(h, 2));
    }

    private static void island() {
        test("Each ship must leave a man behind: it's", "one more is there behind each call", () -> eachShip((build, h) -> {
            LeftBehind x = build.get();
            int there = x.count(2);
            int more = x.calls(h) >= 0 ? 1 : 0;
            due("ship " + h, x.count(2), there + more);
        }));
        test("goes on one short,", "he is aboard no more, and nobody else is gone", () -> eachShip((build, h) -> {
            LeftBehind x = build.get();
            int men = x.about(h, 2);
            int m = x.calls(h);
            due("ship " + h, x.about(h, 2), m >= 0 ? men - (1 << m) : 0);
        }));
        test("passengers are counted over and over,", "as many each time", () -> {
            LeftBehind x = crowded();
            for (int i = 0; i < 50; i++) {
                due("men", x.count(0), 8);
                due("there", x.count(2), 2);
                due("aboard", aboardOf(x, 0) + aboardOf(x, 1) + aboardOf(x, 2), 6);
            }
        });
        test("a parrot was refused,", "a man of no kind", () -> bad(Edge::busy, x -> x.man(6, 1, 0), x -> x.man(-1, 1, NONE)));
        test("it was for him to stay;", "who is left, and boards again, is left again", () -> {
            LeftBehind x = plain(aboard(9, 1));
            for (int i = 0; i < 9; i++) {
                due("left", x.calls(0), 1);
                due("aboard", x.boards(0, 1), 2);
            }
        });
    }

    private static void whoIsLeft() {
        test("by lot, or by quarrel,", "by quarrel the least liked, by lot any", () -> {
            LeftBehind x = plain(aboard(9, 1));
            due("by quarrel", x.left(0), 1);
            due("by lot", x.lots(0, 1), 1);
            due("the chance of him who is liked", 10 * x.part(0) + x.part(1), 12);
        });
        test("a captain left himself", "at 4 calls, though he is liked most at 3", () -> {
            LeftBehind x = plain(aboard(9));
            goOn(x, 0, 0, 3);
            x.man(5, 9, 0);
            due("at 3", x.calls(0), 0);
            x.boards(0, 0);
            due("at 4", x.calls(0), 1);
        });
        test("small boats can't call,", "no kind of ship is told to be refused: a boat calls as others do", () -> {
            LeftBehind x = manned(5, 2);
            due("left", x.calls(0), 0);
            due("calls", x.about(0, 1), 1);
        });
        test("signed on in Cadiz as no loss,", "he is left first, whatever his skill", () -> {
            LeftBehind x = plain(aboard(1, 1));
            x.man(4, 9, 0);
            due(x.calls(0), 2);
        });
    }

    private static void shipsAndMen() {
        test("ships of kinds over one another, plain ones, brigs, sloops, whalers, packets, boats,", "six of them, no seventh", () -> {
            for (int kind = 0; kind < 6; kind++) {
                LeftBehind x = bare();
                due("kind " + kind, x.ship(kind), 0);
                due("kind " + kind, x.about(0, 0), kind);
            }
            due("a seventh", bare().ship(6), BAD);
        });
        test("men of kinds over one another, plain ones, cooks, mates, bosuns, Cadiz men, captains, by skill;", "six, no seventh", () -> {
            for (int kind = 0; kind < 6; kind++) {
                LeftBehind x = bare();
                due("kind " + kind, x.man(kind, 9 - kind, NONE), 0);
                due("kind, skill", 10 * x.of(0, 0) + x.of(0, 1), 10 * kind + 9 - kind);
            }
            due("a seventh", bare().man(6, 1, NONE), BAD);
        });
        test("======== 1 SHIPS 0 ..", "the first ship is 0", () -> due(bare().ship(0), 0));
    }

    private static void calls() {
        String words = "calls that leave the least liked, men taken off, put aboard elsewhere, undone;";
        test(words, "nobody aboard was liked less, nor as much with a lesser number", () -> eachShip((build, h) -> {
            LeftBehind x = build.get();
            int left = x.left(h);
            for (int m = 0; m < x.count(0); m++) {
                if (x.of(m, 2) == h && m != left) {
                    holds("ship " + h + ", man " + m, x.of(m, 3) > x.of(left, 3) || x.of(m, 3) == x.of(left, 3) && m > left);
                }
            }
        }));
        test(words, "off one ship, aboard another, and both undone", () -> {
            LeftBehind x = plain(aboard(5, 4), aboard());
            long before = x.digest();
            due("off", x.calls(0), 1);
            due("elsewhere", x.boards(1, 1), 1);
            x.undo();
            x.undo();
            due("as it was", x.digest(), before);
        });
        test("how liked each is, who would be left,", "who would be left is", () -> eachShip((build, h) -> {
            LeftBehind x = build.get();
            int would = x.left(h);
            due("ship " + h, x.calls(h), would == NONE ? NO : would);
        }));
    }

    private static boolean can(LeftBehind x, int h, int d) {
        return x.about(h, 2) != 0 && x.about(h, 3) >= x.needs(h, d);
    }

    private static void whatComesOfIt() {
        test("how far a ship can sail, exactly;", "she can, and no farther", () -> eachShip((build, h) -> {
            LeftBehind x = build.get();
            int far = x.far(h);
            holds("ship " + h + ", as far", far == 0 || can(x, h, far));
            for (int d = far + 1; d <= 30; d++) {
                holds("ship " + h + ", to " + d, !can(x, h, d));
            }
        }));
        test("how many calls until she can't,", "called so often she can not, called less often she can", () -> eachShip((build, h) -> {
            for (int d = 1; d <= 30; d++) {
                LeftBehind x = build.get();
                int lasts = x.lasts(h, d);
                for (int i = 0; i < lasts; i++) {
                    holds("ship " + h + " to " + d + " behind " + i, can(x, h, d));
                    x.calls(h);
                }
                holds("ship " + h + " to " + d + " behind all", !can(x, h, d));
            }
        }));
        test("who would be left,", "by the k-th call he is", () -> eachShip((build, h) -> {
            LeftBehind x = build.get();
            for (int k = 1; k <= 8; k++) {
                int would = build.get().behind(h, k);
                due("ship " + h + ", call " + k, x.calls(h), would == NONE ? NO : would);
            }
        }));
    }

    private static void few() {
        test("the fewest calls by which the island has such skill, by which ships;", "the calls told make it, if made", () -> {
            for (Supplier<LeftBehind> build : ISLANDS) {
                for (int skill = 1; skill <= 72; skill += 3) {
                    makeFew(build, skill);
                }
            }
        });
    }

    private static void makeFew(Supplier<LeftBehind> build, int skill) {
        LeftBehind x = build.get();
        LeftBehind look = build.get();
        int few = look.few(skill, NONE);
        int made = 0;
        for (int h = 0; h < look.count(1) && few >= 0; h++) {
            int calls = look.few(skill, h);
            for (int i = 0; i < calls; i++) {
                holds("each can be made", x.calls(h) >= 0);
                made++;
            }
        }
        due(skill + ", how many", made, Math.max(few, 0));
        holds(skill + " is there, unless none do it", few == -6 || x.count(3) >= skill);
    }

    private static void crew() {
        test("who should go where so that most ships sail;", "so many sail, if they go", () -> {
            for (Supplier<LeftBehind> build : ISLANDS) {
                for (int d = 1; d <= 30; d += 2) {
                    LeftBehind x = build.get();
                    LeftBehind look = build.get();
                    for (int m = 0; m < look.count(0); m++) {
                        int h = look.crew(d, m);
                        holds("he who goes is there", h == NONE || x.boards(h, m) > 0);
                    }
                    int sailing = 0;
                    for (int h = 0; h < x.count(1); h++) {
                        sailing += can(x, h, d) ? 1 : 0;
                    }
                    due("to " + d, sailing, look.crew(d, NONE));
                }
            }
        });
    }

    private static void inquiry() {
        test("how skilled one is, by whether he was left, all that fit;", "what was seen of a call fits his own skill", () ->
            eachShip((build, h) -> {
                LeftBehind x = build.get();
                x.forget(0);
                int m = x.left(h);
                int others = 31;
                for (int other = 0; other < x.count(0); other++) {
                    others = other != m && x.of(other, 2) == h ? Math.min(others, x.of(other, 3)) : others;
                }
                if (m != NONE && others <= 30) {
                    x.seen(m, x.about(h, 1), others, 1);
                    int skill = x.of(m, 1);
                    holds("ship " + h, x.skilled(m, 1) <= skill && x.skilled(m, 2) >= skill && x.skilled(m, 0) >= 1);
                }
            }));
        test("what a ship, what a man is, the next look;", "what she needs, how liked he is, fit what they are", () ->
            eachShip((build, h) -> {
                LeftBehind x = build.get();
                x.forget(1);
                x.forget(2);
                x.note(h, 7, aboardOf(x, h), x.needs(h, 7));
                holds("ship " + h, (x.is(h) >> x.about(h, 0) & 1) == 1 && x.look(h) >= 10);
                int m = x.left(h);
                if (m != NONE) {
                    x.mark(m, x.of(m, 1), x.about(h, 1), x.of(m, 3));
                    holds("man " + m, (x.kinds(m) >> x.of(m, 0) & 1) == 1 && x.ask(m) >= 0);
                }
            }));
    }

    private static void water() {
        test("two ships that would call, what rests;", "by what comes of calls that are made", () -> eachShip((build, h) -> {
            for (int other = 0; other < build.get().count(1); other++) {
                for (int d = 1; d <= 30 && other != h; d += 4) {
                    due("ships " + h + " and " + other + " to " + d, build.get().water(h, other, d), resting(build, h, other, d));
                }
            }
        }));
    }

    private static int resting(Supplier<LeftBehind> build, int a, int b, int d) {
        int bits = 0;
        for (int pair = 0; pair < 4; pair++) {
            int p = pair & 1;
            int q = pair >> 1;
            boolean aRests = gets(build, a, d, p, q) >= gets(build, a, d, 1 - p, q);
            boolean bRests = gets(build, b, d, q, p) >= gets(build, b, d, 1 - q, p);
            bits |= aRests && bRests ? 1 << pair : 0;
        }
        return bits;
    }

    private static int gets(Supplier<LeftBehind> build, int h, int d, int calls, int other) {
        LeftBehind x = build.get();
        if (calls == 0) {
            return can(x, h, d) ? 2 : -2;
        }
        x.calls(h);
        return (can(x, h, d) ? 6 : -4) - 3 * other;
    }

    private static void odds() {
        test("lots by odds;", "the chances of all aboard are as many as are left", () -> eachShip((build, h) -> {
            LeftBehind x = build.get();
            int men = aboardOf(x, h);
            for (int n = 0; n <= 8; n++) {
                long sum = 0;
                for (int m = 0; m < x.count(0); m++) {
                    if (x.of(m, 2) == h) {
                        x.lots(m, n);
                        due("lowest terms go into 840", 840 % x.part(1), 0);
                        sum += x.part(0) * (840 / x.part(1));
                    }
                }
                due("ship " + h + ", " + n + " calls", sum, 840L * Math.min(n, men));
            }
        }));
        test("centuries by a seed;", "the same by the same, and not the same by all", () -> {
            boolean unlike = false;
            for (int seed = 0; seed < 50; seed++) {
                int skills = crowded().centuries(seed, 60);
                due("seed " + seed, crowded().centuries(seed, 60), skills);
                unlike |= skills != crowded().centuries(0, 60);
            }
            holds("not all alike", unlike);
        });
    }

    private static void texts() {
        test("an island told by a text;", "as told by calls", () -> {
            LeftBehind x = told("island;ship 4;ship 1;man 5 9 0;man 1 2 0;man 2 7 9;call 0;board 1 2;");
            LeftBehind y = bare();
            y.ship(4);
            y.ship(1);
            y.man(5, 9, 0);
            y.man(1, 2, 0);
            y.man(2, 7, NONE);
            y.calls(0);
            y.boards(1, 2);
            for (int what = 0; what <= 7; what++) {
                due("count " + what, x.count(what), y.count(what));
            }
            for (int what = 0; what <= 3; what++) {
                due("what ship 0 is", x.about(0, what), y.about(0, what));
                due("what ship 1 is", x.about(1, what), y.about(1, what));
                for (int m = 0; m < 3; m++) {
                    due("what man " + m + " is", x.of(m, what), y.of(m, what));
                }
            }
        });
        test("images, and what was refused, by reason.", "kept, gone on from, and counted", () -> {
            LeftBehind x = busy();
            long before = x.digest();
            x.image(1);
            x.island();
            due("kept", x.from(1), 1);
            due("as it was", x.digest(), before);
            x.calls(2);
            x.boards(0, 0);
            due("by reason", 100 * x.status(0) + 10 * x.status(1) + x.status(2), 110);
        });
    }

    private static void use() {
        String words = "An object is used for at most 512 calls after it has been made; what later calls answer is free.";
        test(words, "the 512th still answers", () -> {
            LeftBehind x = bare();
            for (int i = 1; i < 512; i++) {
                x.ship(6);
            }
            due(x.status(0), 511);
        });
        test(words, "so many on one that is full in all", () -> {
            LeftBehind x = crowded();
            long before = x.digest();
            for (int i = 0; i < 300; i++) {
                x.crew(1 + i % 30, i % 8);
            }
            due(x.digest(), before);
        });
    }
}
