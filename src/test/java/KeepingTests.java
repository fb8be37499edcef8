/** Promises 33 to 38: the fraction, images, what was refused, how many, the digest. */
final class KeepingTests {
    private static final int BAD = LeftBehind.BAD, NO = LeftBehind.NO;

    private KeepingTests() {
    }

    static void run() {
        part();
        images();
        imagesKeepWhatMayBeUndone();
        status();
        refusedChangesNothing();
        count();
        digest();
        constants();
    }

    private static void part() {
        LeftBehind x = new LeftBehind();
        Check.due("part -1", x.part(-1), BAD);
        Check.due("part 2", x.part(2), BAD);
        Check.due("part: refused", x.status(0), 2);
        Check.due("part: at first", 10 * x.part(0) + x.part(1), 1);
    }

    private static LeftBehind crowded() {
        LeftBehind x = IslandTests.told("island;ship 4;ship 3;man 0 2 0;man 5 2 0;man 3 2 1;man 0 4 9;");
        x.calls(0);
        x.boards(1, 3);
        x.seen(1, 2, 3, 1);
        x.seen(3, 4, 5, 0);
        x.note(1, 30, 8, 99);
        x.mark(2, 9, 8, 40);
        x.lots(1, 1);
        return x;
    }

    private static void images() {
        LeftBehind x = crowded();
        long kept = x.digest();
        Check.due("image -1", x.image(-1), BAD);
        Check.due("image 2", x.image(2), BAD);
        Check.due("from -1", x.from(-1), BAD);
        Check.due("from 2", x.from(2), BAD);
        Check.due("from: none kept", x.from(1), NO);
        Check.due("image", x.image(1), 1);
        Check.due("from: the other one was not kept", x.from(0), NO);
        x.forget(0);
        x.forget(1);
        x.forget(2);
        x.seen(0, 9, 9, 0);
        x.note(0, 1, 1, 1);
        x.mark(0, 1, 1, 1);
        x.calls(1);
        x.ship(0);
        x.man(1, 1, 0);
        Check.due("from", x.from(1), 1);
        Check.due("from: as it was", x.digest(), kept);
        x.calls(1);
        long other = x.digest();
        x.image(0);
        Check.due("from: again", x.from(1), 1);
        Check.due("from: what came behind it did not touch it", x.digest(), kept);
        x.from(0);
        Check.due("from: the other", x.digest(), other);
        x.lots(2, 0);
        IslandTests.type(x, "abc");
        x.from(1);
        Check.due("from: the text stays", x.count(9), 64);
        Check.due("from: the fraction stays", 10 * x.part(0) + x.part(1), 1);
        Check.due("from: status stays", 10 * x.status(0) + x.status(1), 42);
        x.island();
        x.image(1);
        x.from(1);
        Check.due("image: a later one takes its place", x.count(0), 0);
    }

    private static void imagesKeepWhatMayBeUndone() {
        LeftBehind x = crowded();
        x.image(0);
        x.ship(0);
        Check.due("undo: none behind a ship", x.undo(), NO);
        x.from(0);
        Check.due("from: may be undone", x.count(8), 2);
        Check.due("from: the boarding undone", x.undo(), 2);
        Check.due("from: the call undone", x.undo(), 1);
        Check.due("from: no more", x.undo(), NO);
        x.from(0);
        Check.due("from: undoing did not touch it", x.count(8), 2);
    }

    private static void status() {
        LeftBehind x = new LeftBehind();
        x.ship(0);
        x.ship(9);
        x.few(0, 0);
        x.crew(0, 0);
        x.status(3);
        x.status(-1);
        Check.due("status: each BAD, however it is told", x.status(0), 5);
        x.calls(0);
        x.undo();
        x.from(0);
        Check.due("status: NO", x.status(1), 3);
        x.ship(0);
        x.ship(0);
        x.ship(0);
        Check.due("status: FULL", x.status(2), 1);
        x.read();
        x.few(1, -1);
        x.left(0);
        Check.due("status: no other answer", 100 * x.status(0) + 10 * x.status(1) + x.status(2), 531);
        Check.due("status 3", x.status(3), -1);
        Check.due("status -1", x.status(-1), -1);
        Check.due("status: these are bad", x.status(0), 7);
    }

    private static void refusedChangesNothing() {
        LeftBehind x = crowded();
        x.type('!');
        long before = x.digest();
        x.ship(6);
        x.man(0, 0, 0);
        x.type(128);
        x.read();
        x.calls(2);
        x.boards(0, 1);
        x.seen(9, 0, 0, 0);
        x.note(0, 0, 0, 0);
        x.mark(0, 0, 0, 0);
        x.forget(3);
        x.lots(0, 1);
        x.lots(0, 9);
        x.image(2);
        x.from(0);
        x.centuries(-1, 1);
        Check.due("what is refused changes nothing", x.digest(), before);
        Check.due("all of them were, but read", 100 * x.status(0) + x.status(1), 1103);
    }

    private static void count() {
        LeftBehind x = crowded();
        int[] due = {4, 2, 1, 2, 1, 2, 1, 1, 2, 61};
        for (int what = 0; what < due.length; what++) {
            Check.due("count " + what, x.count(what), due[what]);
        }
        Check.due("count -1", x.count(-1), BAD);
        Check.due("count 10", x.count(10), BAD);
        Check.due("count: refused", x.status(0), 2);
    }

    private static long fold(long... values) {
        long h = 1721;
        for (long v : values) {
            h = 31 * h + v;
        }
        return h;
    }

    private static void digest() {
        long first = fold(0, 0, 0, 0, 0, 0, 0, 0, 0, 0, 0, 1);
        Check.due("digest: at first", new LeftBehind().digest(), first);
        long due = fold(4, 2, 1, 2, 1, 2, 1, 1, 2, 61,
            4, 1, 3, 0,
            0, 2, -1, 5, 2, 0, 3, 2, 1, 0, 4, 1,
            1, 2, 3, 1, 3, 4, 5, 0,
            1, 30, 8, 99,
            2, 9, 8, 40,
            1, 1);
        Check.due("digest", crowded().digest(), due);
        LeftBehind x = crowded();
        x.ship(9);
        x.image(0);
        Check.due("digest: neither status nor images", x.digest(), due);
    }

    private static void constants() {
        Check.due("NONE", LeftBehind.NONE, -1);
        Check.due("BAD", LeftBehind.BAD, -2);
        Check.due("NO", LeftBehind.NO, -3);
        Check.due("FULL", LeftBehind.FULL, -4);
    }
}
