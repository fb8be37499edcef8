import java.lang.reflect.Method;
import java.lang.reflect.Modifier;
import java.util.Arrays;
import java.util.Random;

/** Random runs (of seeds told here, so always the same) of the class beside the model. */
final class ModelTests {
    private static final int RUNS = 1500;
    private static final int CALLS = 170;
    private static final Integer[] EDGES = {
        Integer.MIN_VALUE, -2, -1, 0, 1, 2, 3, 5, 6, 7, 8, 9, 10, 30, 31, 72, 73, 99, 100, 127, 128, Integer.MAX_VALUE};

    private final Random random;
    private final LeftBehind x = new LeftBehind();
    private final Model model = new Model();
    private final int run;

    private ModelTests(int run) {
        this.run = run;
        this.random = new Random(run);
    }

    static void run() throws ReflectiveOperationException {
        for (int run = 0; run < RUNS; run++) {
            new ModelTests(run).go();
        }
        for (Method call : LeftBehind.class.getDeclaredMethods()) {
            if (Modifier.isPublic(call.getModifiers())) {
                new ModelTests(RUNS).edges(call);
            }
        }
    }

    /** Each call with each of the numbers about its ends, and the ends of all numbers, in each place. */
    private void edges(Method call) throws ReflectiveOperationException {
        Method other = Model.class.getDeclaredMethod(call.getName(), call.getParameterTypes());
        settle();
        Object[] told = new Object[call.getParameterCount()];
        int ways = (int) Math.pow(EDGES.length, Math.min(3, told.length));
        for (int way = 0; way < ways; way++) {
            for (int i = 0, rest = way; i < told.length; i++, rest /= EDGES.length) {
                told[i] = i < 3 ? EDGES[rest % EDGES.length] : EDGES[(way + i) % EDGES.length];
            }
            String what = call.getName() + Arrays.toString(told);
            due(what, ((Number) call.invoke(x, told)).longValue(), ((Number) other.invoke(model, told)).longValue());
            due("status(0) behind " + what, x.status(0), model.status(0));
        }
        due("digest() behind " + call.getName(), x.digest(), model.digest());
    }

    private void go() {
        if (random.nextInt(3) > 0) {
            settle();
        }
        for (int i = 0; i < CALLS && !Check.anyFailed(); i++) {
            if (random.nextInt(40) == 0) {
                typeText();
            } else {
                oneCall(random.nextInt(38));
            }
        }
        for (int what = 0; what < 3; what++) {
            due("status " + what, x.status(what), model.status(what));
        }
    }

    private void due(String what, long got, long want) {
        Check.due("run " + run + ": " + what, got, want);
    }

    /** Mostly within; at times one outside at an end, rarely anything. */
    private int some(int least, int most) {
        int odds = random.nextInt(60);
        if (odds == 0) {
            return least - 1;
        }
        if (odds == 1) {
            return most + 1;
        }
        if (odds == 2) {
            return random.nextInt(8) == 0 ? random.nextInt() : random.nextInt(200) - 50;
        }
        return most < least ? least : least + random.nextInt(most - least + 1);
    }

    private int someShip() {
        return some(0, model.s.ships.size() - 1);
    }

    private int someMan() {
        return some(0, model.s.men.size() - 1);
    }

    private void settle() {
        int ships = 1 + random.nextInt(3);
        for (int h = 0; h < ships; h++) {
            addShip();
        }
        int men = 3 + random.nextInt(6);
        for (int m = 0; m < men; m++) {
            addMan();
        }
    }

    private void addShip() {
        int kind = some(0, 5);
        due("ship(" + kind + ")", x.ship(kind), model.ship(kind));
    }

    private void addMan() {
        int kind = some(0, 5);
        int skill = some(1, 9);
        int h = some(-1, model.s.ships.size() - 1);
        due("man(" + kind + ", " + skill + ", " + h + ")", x.man(kind, skill, h), model.man(kind, skill, h));
    }

    private void typeText() {
        due("clear()", x.clear(), model.clear());
        String text = someText();
        for (int i = 0; i < text.length(); i++) {
            due("type " + i + " of " + text, x.type(text.charAt(i)), model.type(text.charAt(i)));
        }
        due("read() of '" + text + "'", x.read(), model.read());
        due("digest() behind read of '" + text + "'", x.digest(), model.digest());
    }

    private String someText() {
        StringBuilder text = new StringBuilder("island;");
        int ships = random.nextInt(4);
        for (int h = 0; h < ships; h++) {
            text.append("ship ").append(random.nextInt(6)).append(';');
        }
        int men = random.nextInt(8);
        for (int m = 0; m < men; m++) {
            int h = random.nextInt(ships + 1);
            text.append("man ").append(random.nextInt(6)).append(' ').append(1 + random.nextInt(9)).append(' ')
                .append(h == ships ? 9 : h).append(';');
        }
        while (ships > 0 && random.nextInt(4) > 0) {
            text.append(random.nextBoolean() ? "call " : "board " + random.nextInt(ships) + " ")
                .append(random.nextInt(Math.max(ships, men))).append(';');
        }
        int spoils = random.nextInt(3);
        for (int i = 0; i < spoils; i++) {
            spoil(text);
        }
        return text.toString();
    }

    private void spoil(StringBuilder text) {
        String bytes = " ;0123456789islandshipmancallboard!A\n\0{`:/";
        int at = random.nextInt(text.length());
        char c = bytes.charAt(random.nextInt(bytes.length()));
        switch (random.nextInt(6)) {
            case 0: text.setCharAt(at, c); break;
            case 1: text.deleteCharAt(at); break;
            case 2: text.setLength(Math.max(1, at)); break;
            case 3: text.append(";man 0 1 9;ship 2;island;".charAt(random.nextInt(25))); break;
            default: text.insert(at, c); break;
        }
    }

    private void oneCall(int which) {
        if (which < 13) {
            change(which);
        } else if (which < 26) {
            lookAtShips(which);
        } else {
            lookAtMen(which);
        }
        due("digest()", x.digest(), model.digest());
    }

    private void change(int which) {
        int h = someShip();
        int m = someMan();
        int i = some(0, 1);
        int c = random.nextInt(3) == 0 ? some(0, 99) : some(0, 10);
        switch (which) {
            case 0: if (random.nextInt(6) == 0) due("island()", x.island(), model.island()); break;
            case 1: addShip(); break;
            case 2: addMan(); break;
            case 3: case 4: due("calls(" + h + ")", x.calls(h), model.calls(h)); break;
            case 5: case 6: due("boards(" + h + ", " + m + ")", x.boards(h, m), model.boards(h, m)); break;
            case 7: due("undo()", x.undo(), model.undo()); break;
            case 8: due("image(" + i + ")", x.image(i), model.image(i)); break;
            case 9: due("from(" + i + ")", x.from(i), model.from(i)); break;
            case 10: addSeen(m, c); break;
            case 11: addNote(h); break;
            default: addMark(m, c); break;
        }
        int what = some(0, 2);
        if (random.nextInt(12) == 0) {
            due("forget(" + what + ")", x.forget(what), model.forget(what));
        }
    }

    private void addSeen(int m, int c) {
        int l = some(0, random.nextBoolean() ? 30 : 12);
        int left = some(0, 1);
        due("seen(" + m + ", " + c + ", " + l + ", " + left + ")", x.seen(m, c, l, left), model.seen(m, c, l, left));
    }

    private void addNote(int h) {
        int d = some(1, 30);
        int n = some(0, 8);
        int needed = random.nextInt(8) == 0 ? some(0, 99) : Model.need(random.nextInt(6), d, n);
        due("note(" + h + ", " + d + ", " + n + ", " + needed + ")", x.note(h, d, n, needed), model.note(h, d, n, needed));
    }

    private void addMark(int m, int c) {
        int s = some(1, 9);
        int liked = random.nextInt(8) == 0 ? some(0, 40) : Model.liked(random.nextInt(6), s, c);
        due("mark(" + m + ", " + s + ", " + c + ", " + liked + ")", x.mark(m, s, c, liked), model.mark(m, s, c, liked));
    }

    private void lookAtShips(int which) {
        int h = someShip();
        int g = someShip();
        int d = random.nextInt(3) == 0 ? some(1, 30) : some(1, 12);
        int k = some(1, 8);
        int p = some(1, random.nextBoolean() ? 72 : 40);
        int hOrNone = random.nextInt(3) == 0 ? -1 : h;
        int mOrNone = random.nextInt(4) == 0 ? -1 : someMan();
        int what = some(0, 3);
        switch (which) {
            case 13: due("about(" + h + ", " + what + ")", x.about(h, what), model.about(h, what)); break;
            case 14: due("left(" + h + ")", x.left(h), model.left(h)); break;
            case 15: due("needs(" + h + ", " + d + ")", x.needs(h, d), model.needs(h, d)); break;
            case 16: due("far(" + h + ")", x.far(h), model.far(h)); break;
            case 17: due("behind(" + h + ", " + k + ")", x.behind(h, k), model.behind(h, k)); break;
            case 18: due("lasts(" + h + ", " + d + ")", x.lasts(h, d), model.lasts(h, d)); break;
            case 19: case 20: due("few(" + p + ", " + hOrNone + ")", x.few(p, hOrNone), model.few(p, hOrNone)); break;
            case 21: due("is(" + h + ")", x.is(h), model.is(h)); break;
            case 22: due("look(" + h + ")", x.look(h), model.look(h)); break;
            case 23: due("water(" + h + ", " + g + ", " + d + ")", x.water(h, g, d), model.water(h, g, d)); break;
            default: due("crew(" + d + ", " + mOrNone + ")", x.crew(d, mOrNone), model.crew(d, mOrNone)); break;
        }
    }

    private void lookAtMen(int which) {
        int m = someMan();
        int what = some(0, 2);
        int wider = some(0, 9);
        int n = some(0, 8);
        int seed = some(0, 999999);
        int years = some(0, 60);
        switch (which) {
            case 26: due("of(" + m + ", " + (what + 1) + ")", x.of(m, what + 1), model.of(m, what + 1)); break;
            case 27: case 28: due("skilled(" + m + ", " + what + ")", x.skilled(m, what), model.skilled(m, what)); break;
            case 29: due("tell(" + m + ")", x.tell(m), model.tell(m)); break;
            case 30: due("kinds(" + m + ")", x.kinds(m), model.kinds(m)); break;
            case 31: due("ask(" + m + ")", x.ask(m), model.ask(m)); break;
            case 32: due("lots(" + m + ", " + n + ")", x.lots(m, n), model.lots(m, n)); break;
            case 33: due("part(" + what + ")", x.part(what), model.part(what)); break;
            case 34: due("status(" + what + ")", x.status(what), model.status(what)); break;
            case 35: due("count(" + wider + ")", x.count(wider), model.count(wider)); break;
            default: due("centuries(" + seed + ", " + years + ")", x.centuries(seed, years), model.centuries(seed, years)); break;
        }
    }
}
