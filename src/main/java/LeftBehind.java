/**
 * An island that takes a man of every ship that calls. DOC.md says what each method answers; the
 * words in capitals there (CALL, BOARDING, LIKED, NEEDS ..) are the plain words here.
 *
 * <p>All rows are made once, by the constructor: no call makes an object.
 */
public final class LeftBehind {
    public static final int NONE = -1, BAD = -2, NO = -3, FULL = -4;

    private static final int MOST_SHIPS = 3;
    private static final int MOST_MEN = 8;
    private static final int KINDS = 6;
    private static final int MOST_SKILL = 9;
    private static final int MOST_CALLS = 99;
    private static final int MOST_DISTANCE = 30;
    private static final int MOST_TEXT = 150;
    private static final int MOST_UNDONE = 8;
    private static final int MOST_SEEN = 5;
    private static final int MOST_NOTES = 6;
    private static final int MOST_MARKS = 6;
    private static final int IMAGES = 2;
    private static final int COUNTS = 10;

    /** What few and crew answer where others answer BAD, and what status does. */
    private static final int BAD_THERE = -10;
    private static final int BAD_STATUS = -1;

    private final Isle isle = new Isle();
    /** Where calls that change nothing try things out, and where a text is read before it counts. */
    private final Isle spare = new Isle();
    private final Isle[] images = new Isle[IMAGES];
    private final boolean[] kept = new boolean[IMAGES];
    private final Text text = new Text();
    private final Fewest fewest = new Fewest();
    private final Crews crews = new Crews();
    private final Inquiry inquiry = new Inquiry();
    private int above = 0;
    private int below = 1;
    private int refusedBad = 0;
    private int refusedNo = 0;
    private int refusedFull = 0;

    public LeftBehind() {
        for (int i = 0; i < IMAGES; i++) {
            images[i] = new Isle();
        }
    }

    // ---- an island

    public int island() {
        int before = isle.men;
        isle.empty();
        return before;
    }

    public int ship(int kind) {
        if (!isKind(kind)) {
            return refuse(BAD);
        }
        if (isle.ships >= MOST_SHIPS) {
            return refuse(FULL);
        }
        return isle.addShip(kind);
    }

    public int man(int kind, int skill, int h) {
        if (!isKind(kind) || !within(skill, 1, MOST_SKILL) || !isShipOrNone(h)) {
            return refuse(BAD);
        }
        if (isle.men >= MOST_MEN) {
            return refuse(FULL);
        }
        return isle.addMan(kind, skill, h);
    }

    public int type(int c) {
        if (!within(c, 0, 127)) {
            return refuse(BAD);
        }
        if (text.size() >= MOST_TEXT) {
            return refuse(FULL);
        }
        return text.append(c);
    }

    public int clear() {
        return text.empty();
    }

    public int read() {
        int items = text.readOnto(spare);
        if (items > 0) {
            isle.take(spare);
        }
        return items;
    }

    // ---- calls

    public int calls(int h) {
        if (!isle.hasShip(h)) {
            return refuse(BAD);
        }
        int m = isle.leastLiked(h);
        if (m == NONE) {
            return refuse(NO);
        }
        isle.remember(h, m);
        return isle.leaveOne(h);
    }

    public int boards(int h, int m) {
        if (!isle.hasShip(h) || !isle.hasMan(m)) {
            return refuse(BAD);
        }
        if (isle.manShip[m] != NONE) {
            return refuse(NO);
        }
        isle.remember(h, m);
        isle.takeAboard(h, m);
        return isle.menAt(h);
    }

    public int undo() {
        if (isle.steps.size() == 0) {
            return refuse(NO);
        }
        isle.takeBack();
        return isle.menAt(NONE);
    }

    public int of(int m, int what) {
        if (!isle.hasMan(m)) {
            return refuse(BAD);
        }
        switch (what) {
            case 0: return isle.manKind[m];
            case 1: return isle.manSkill[m];
            case 2: return isle.manShip[m];
            case 3: return isle.liking(m);
            default: return refuse(BAD);
        }
    }

    public int about(int h, int what) {
        if (!isle.hasShip(h)) {
            return refuse(BAD);
        }
        switch (what) {
            case 0: return isle.shipKind[h];
            case 1: return isle.shipCalls[h];
            case 2: return isle.bitsAt(h);
            case 3: return isle.skillsAt(h);
            default: return refuse(BAD);
        }
    }

    // ---- who is left

    public int left(int h) {
        return isle.hasShip(h) ? isle.leastLiked(h) : refuse(BAD);
    }

    public int needs(int h, int d) {
        if (!isle.hasShip(h) || !isDistance(d)) {
            return refuse(BAD);
        }
        return Kinds.need(isle.shipKind[h], d, isle.menAt(h));
    }

    public int far(int h) {
        if (!isle.hasShip(h)) {
            return refuse(BAD);
        }
        int d = MOST_DISTANCE;
        while (d > 0 && !isle.canSail(h, d)) {
            d--;
        }
        return d;
    }

    public int behind(int h, int k) {
        if (!isle.hasShip(h) || !within(k, 1, 8)) {
            return refuse(BAD);
        }
        spare.takePlaces(isle);
        int m = NONE;
        for (int i = 0; i < k; i++) {
            m = spare.leaveOne(h);
        }
        return m;
    }

    public int lasts(int h, int d) {
        if (!isle.hasShip(h) || !isDistance(d)) {
            return refuse(BAD);
        }
        spare.takePlaces(isle);
        int done = 0;
        while (done < MOST_MEN && spare.canSail(h, d)) {
            spare.leaveOne(h);
            done++;
        }
        return done;
    }

    public int few(int x, int h) {
        if (!within(x, 1, MOST_MEN * MOST_SKILL) || !isShipOrNone(h)) {
            refuse(BAD);
            return BAD_THERE;
        }
        spare.takePlaces(isle);
        int total = fewest.find(spare, x);
        return total < 0 || h == NONE ? total : fewest.madeBy(h);
    }

    public int crew(int d, int m) {
        if (!isDistance(d) || (m != NONE && !isle.hasMan(m))) {
            refuse(BAD);
            return BAD_THERE;
        }
        crews.find(isle, d);
        return m == NONE ? crews.sailing() : crews.placeOf(m);
    }

    // ---- how skilled he is

    public int seen(int m, int c, int l, int left) {
        if (!isle.hasMan(m) || !within(c, 0, MOST_CALLS) || !within(l, 0, 30) || !within(left, 0, 1)) {
            return refuse(BAD);
        }
        return addTo(isle.sights, m, c, l, left);
    }

    public int skilled(int m, int what) {
        if (!isle.hasMan(m) || !within(what, 0, 2)) {
            return refuse(BAD);
        }
        int bits = inquiry.skillsOf(isle, m);
        switch (what) {
            case 0: return Integer.bitCount(bits);
            case 1: return leastBit(bits);
            default: return greatestBit(bits);
        }
    }

    public int tell(int m) {
        if (!isle.hasMan(m)) {
            return refuse(BAD);
        }
        return inquiry.bestSight(isle.manKind[m], inquiry.skillsOf(isle, m));
    }

    public int note(int h, int d, int n, int x) {
        if (!isle.hasShip(h) || !isDistance(d) || !within(n, 0, MOST_MEN) || !within(x, 0, 99)) {
            return refuse(BAD);
        }
        return addTo(isle.notes, h, d, n, x);
    }

    public int mark(int m, int s, int c, int x) {
        if (!isle.hasMan(m) || !within(s, 1, MOST_SKILL) || !within(c, 0, MOST_CALLS) || !within(x, 0, 40)) {
            return refuse(BAD);
        }
        return addTo(isle.marks, m, s, c, x);
    }

    public int forget(int what) {
        switch (what) {
            case 0: return isle.sights.empty();
            case 1: return isle.notes.empty();
            case 2: return isle.marks.empty();
            default: return refuse(BAD);
        }
    }

    public int is(int h) {
        return isle.hasShip(h) ? inquiry.shipKindsOf(isle, h) : refuse(BAD);
    }

    public int look(int h) {
        return isle.hasShip(h) ? inquiry.bestNote(inquiry.shipKindsOf(isle, h)) : refuse(BAD);
    }

    public int kinds(int m) {
        return isle.hasMan(m) ? inquiry.manKindsOf(isle, m) : refuse(BAD);
    }

    public int ask(int m) {
        if (!isle.hasMan(m)) {
            return refuse(BAD);
        }
        return inquiry.bestMark(isle.manSkill[m], inquiry.manKindsOf(isle, m));
    }

    public int water(int a, int b, int d) {
        if (!isle.hasShip(a) || !isle.hasShip(b) || a == b || !isDistance(d)) {
            return refuse(BAD);
        }
        spare.takePlaces(isle);
        spare.leaveOne(a);
        spare.leaveOne(b);
        int aGains = gainByCalling(a, d);
        int bGains = gainByCalling(b, d);
        int bits = 0;
        if (aGains <= 0 && bGains <= 0) {
            bits |= 1;
        }
        if (aGains >= 0 && bGains <= 3) {
            bits |= 2;
        }
        if (bGains >= 0 && aGains <= 3) {
            bits |= 4;
        }
        if (aGains >= 3 && bGains >= 3) {
            bits |= 8;
        }
        return bits;
    }

    public int lots(int m, int n) {
        if (!isle.hasMan(m) || !within(n, 0, 8)) {
            return refuse(BAD);
        }
        int h = isle.manShip[m];
        if (h == NONE) {
            return refuse(NO);
        }
        int men = isle.menAt(h);
        keepFraction(Math.min(n, men), men);
        return 1;
    }

    public int centuries(int seed, int n) {
        if (!within(seed, 0, 999999) || !within(n, 0, 60)) {
            return refuse(BAD);
        }
        spare.takePlaces(isle);
        long x = seed;
        for (int i = 0; i < n; i++) {
            x = (x * 1103515245L + 12345L) % 2147483648L;
            spare.passYears((int) (x / 65536L % 3L), (int) (x / 1048576L % 16L));
        }
        return spare.skillsAt(NONE);
    }

    // ---- what there is

    public long part(int what) {
        switch (what) {
            case 0: return above;
            case 1: return below;
            default: return refuse(BAD);
        }
    }

    public int image(int i) {
        if (!within(i, 0, IMAGES - 1)) {
            return refuse(BAD);
        }
        images[i].take(isle);
        kept[i] = true;
        return 1;
    }

    public int from(int i) {
        if (!within(i, 0, IMAGES - 1)) {
            return refuse(BAD);
        }
        if (!kept[i]) {
            return refuse(NO);
        }
        isle.take(images[i]);
        return 1;
    }

    public int status(int what) {
        switch (what) {
            case 0: return refusedBad;
            case 1: return refusedNo;
            case 2: return refusedFull;
            default:
                refuse(BAD);
                return BAD_STATUS;
        }
    }

    public int count(int what) {
        return within(what, 0, COUNTS - 1) ? howMany(what) : refuse(BAD);
    }

    public long digest() {
        long h = 1721L;
        for (int what = 0; what < COUNTS; what++) {
            h = 31L * h + howMany(what);
        }
        h = isle.foldInto(h);
        h = 31L * h + above;
        return 31L * h + below;
    }

    // ---- helpers

    private static boolean within(int x, int least, int most) {
        return x >= least && x <= most;
    }

    private static boolean isKind(int kind) {
        return within(kind, 0, KINDS - 1);
    }

    private static boolean isDistance(int d) {
        return within(d, 1, MOST_DISTANCE);
    }

    private boolean isShipOrNone(int h) {
        return h == NONE || isle.hasShip(h);
    }

    private int refuse(int reason) {
        if (reason == BAD) {
            refusedBad++;
        } else if (reason == NO) {
            refusedNo++;
        } else {
            refusedFull++;
        }
        return reason;
    }

    private int addTo(Fours rows, int a, int b, int c, int d) {
        if (rows.isFull()) {
            return refuse(FULL);
        }
        rows.append(a, b, c, d);
        return rows.size();
    }

    private static int leastBit(int bits) {
        for (int i = 0; i <= MOST_SKILL; i++) {
            if ((bits >> i & 1) == 1) {
                return i;
            }
        }
        return NONE;
    }

    private static int greatestBit(int bits) {
        for (int i = MOST_SKILL; i >= 0; i--) {
            if ((bits >> i & 1) == 1) {
                return i;
            }
        }
        return NONE;
    }

    /** What ship h gets more by calling than by going on, the other going on; the spare isle has called. */
    private int gainByCalling(int h, int d) {
        int calling = spare.canSail(h, d) ? 6 : -4;
        int goingOn = isle.canSail(h, d) ? 2 : -2;
        return calling - goingOn;
    }

    private void keepFraction(int over, int under) {
        int divisor = Math.max(under, 1);
        while (divisor > 1 && (over % divisor != 0 || under % divisor != 0)) {
            divisor--;
        }
        above = over / divisor;
        below = under / divisor;
    }

    private int howMany(int what) {
        switch (what) {
            case 0: return isle.men;
            case 1: return isle.ships;
            case 2: return isle.menAt(NONE);
            case 3: return isle.skillsAt(NONE);
            case 4: return isle.allCalls();
            case 5: return isle.sights.size();
            case 6: return isle.notes.size();
            case 7: return isle.marks.size();
            case 8: return isle.steps.size();
            default: return text.size();
        }
    }

    /** What kinds of ships need and how liked kinds of men are, each by the kind it stands under. */
    private static final class Kinds {
        static int need(int kind, int d, int n) {
            int plain = 2 * d;
            int brig = plain + 4;
            int sloop = (plain + 1) / 2;
            switch (kind) {
                case 1: return brig;
                case 2: return sloop;
                case 3: return brig - 2 * n < 1 ? 1 : brig - 2 * n;
                case 4: return n >= 4 ? plain + 5 : plain;
                case 5: return n <= 2 && sloop > 9 ? 9 : sloop;
                default: return plain;
            }
        }

        static int liked(int kind, int s, int c) {
            int plain = s;
            int cook = plain + 5;
            int mate = plain < c ? 0 : plain - c;
            switch (kind) {
                case 1: return cook;
                case 2: return mate;
                case 3: return c >= 2 ? 2 * cook : cook;
                case 4: return c < 3 ? 0 : plain;
                case 5: return c % 5 == 4 ? 0 : mate + 9;
                default: return plain;
            }
        }
    }

    /** A short list of rows of four numbers. */
    private static final class Fours {
        private final int most;
        private final int[] cells;
        private int rows = 0;

        Fours(int most) {
            this.most = most;
            this.cells = new int[4 * most];
        }

        int size() {
            return rows;
        }

        boolean isFull() {
            return rows >= most;
        }

        int cell(int row, int column) {
            return row >= 0 && row < rows && column >= 0 && column < 4 ? cells[4 * row + column] : NONE;
        }

        void append(int a, int b, int c, int d) {
            if (isFull()) {
                return;
            }
            int at = 4 * rows;
            cells[at] = a;
            cells[at + 1] = b;
            cells[at + 2] = c;
            cells[at + 3] = d;
            rows++;
        }

        void dropFirst() {
            if (rows > 0) {
                rows--;
                System.arraycopy(cells, 4, cells, 0, 4 * rows);
            }
        }

        void dropLast() {
            if (rows > 0) {
                rows--;
            }
        }

        int empty() {
            int before = rows;
            rows = 0;
            return before;
        }

        void take(Fours other) {
            rows = Math.min(most, other.rows);
            System.arraycopy(other.cells, 0, cells, 0, 4 * rows);
        }

        long foldInto(long start) {
            long h = start;
            for (int i = 0; i < 4 * rows; i++) {
                h = 31L * h + cells[i];
            }
            return h;
        }
    }

    /** All that an image keeps. Where a place is asked for, it is a ship's number, or NONE: the island. */
    private static final class Isle {
        int ships = 0;
        int men = 0;
        final int[] shipKind = new int[MOST_SHIPS];
        final int[] shipCalls = new int[MOST_SHIPS];
        final int[] manKind = new int[MOST_MEN];
        final int[] manSkill = new int[MOST_MEN];
        final int[] manShip = new int[MOST_MEN];
        final Fours sights = new Fours(MOST_SEEN);
        final Fours notes = new Fours(MOST_NOTES);
        final Fours marks = new Fours(MOST_MARKS);
        /** What may be undone: a ship, the calls she had made, a man, the place where he was. */
        final Fours steps = new Fours(MOST_UNDONE);

        void empty() {
            ships = 0;
            men = 0;
            sights.empty();
            notes.empty();
            marks.empty();
            steps.empty();
        }

        void take(Isle other) {
            takePlaces(other);
            sights.take(other.sights);
            notes.take(other.notes);
            marks.take(other.marks);
            steps.take(other.steps);
        }

        /** Trying out calls needs no more than this. */
        void takePlaces(Isle other) {
            ships = other.ships;
            men = other.men;
            System.arraycopy(other.shipKind, 0, shipKind, 0, MOST_SHIPS);
            System.arraycopy(other.shipCalls, 0, shipCalls, 0, MOST_SHIPS);
            System.arraycopy(other.manKind, 0, manKind, 0, MOST_MEN);
            System.arraycopy(other.manSkill, 0, manSkill, 0, MOST_MEN);
            System.arraycopy(other.manShip, 0, manShip, 0, MOST_MEN);
        }

        boolean hasShip(int h) {
            return h >= 0 && h < ships;
        }

        boolean hasMan(int m) {
            return m >= 0 && m < men;
        }

        int addShip(int kind) {
            if (ships >= MOST_SHIPS) {
                return NONE;
            }
            shipKind[ships] = kind;
            shipCalls[ships] = 0;
            steps.empty();
            return ships++;
        }

        int addMan(int kind, int skill, int place) {
            if (men >= MOST_MEN) {
                return NONE;
            }
            manKind[men] = kind;
            manSkill[men] = skill;
            manShip[men] = place;
            steps.empty();
            return men++;
        }

        int bitsAt(int place) {
            int bits = 0;
            for (int m = 0; m < men; m++) {
                if (manShip[m] == place) {
                    bits |= 1 << m;
                }
            }
            return bits;
        }

        int menAt(int place) {
            return Integer.bitCount(bitsAt(place));
        }

        int skillsAt(int place) {
            int sum = 0;
            for (int m = 0; m < men; m++) {
                if (manShip[m] == place) {
                    sum += manSkill[m];
                }
            }
            return sum;
        }

        int allCalls() {
            int sum = 0;
            for (int h = 0; h < ships; h++) {
                sum += shipCalls[h];
            }
            return sum;
        }

        int liking(int m) {
            int h = manShip[m];
            return hasShip(h) ? Kinds.liked(manKind[m], manSkill[m], shipCalls[h]) : NONE;
        }

        int leastLiked(int h) {
            if (!hasShip(h)) {
                return NONE;
            }
            int least = NONE;
            int lowest = 0;
            for (int m = 0; m < men; m++) {
                if (manShip[m] == h) {
                    int liked = Kinds.liked(manKind[m], manSkill[m], shipCalls[h]);
                    if (least == NONE || liked < lowest) {
                        least = m;
                        lowest = liked;
                    }
                }
            }
            return least;
        }

        boolean canSail(int h, int d) {
            int n = menAt(h);
            return hasShip(h) && n > 0 && skillsAt(h) >= Kinds.need(shipKind[h], d, n);
        }

        /** The call itself; with nobody aboard nothing happens. */
        int leaveOne(int h) {
            int m = leastLiked(h);
            if (m != NONE) {
                manShip[m] = NONE;
                shipCalls[h] = Math.min(MOST_CALLS, shipCalls[h] + 1);
            }
            return m;
        }

        void takeAboard(int h, int m) {
            manShip[m] = h;
        }

        void remember(int h, int m) {
            if (steps.isFull()) {
                steps.dropFirst();
            }
            steps.append(h, shipCalls[h], m, manShip[m]);
        }

        void takeBack() {
            int last = steps.size() - 1;
            int h = steps.cell(last, 0);
            int m = steps.cell(last, 2);
            if (hasShip(h) && hasMan(m)) {
                shipCalls[h] = steps.cell(last, 1);
                manShip[m] = steps.cell(last, 3);
            }
            steps.dropLast();
        }

        void passYears(int h, int y) {
            if (!hasShip(h)) {
                return;
            }
            if (y >= MOST_MEN) {
                leaveOne(h);
            } else if (hasMan(y) && manShip[y] == NONE) {
                takeAboard(h, y);
            }
        }

        long foldInto(long start) {
            long h = start;
            for (int i = 0; i < ships; i++) {
                h = 31L * h + shipKind[i];
                h = 31L * h + shipCalls[i];
            }
            for (int m = 0; m < men; m++) {
                h = 31L * h + manKind[m];
                h = 31L * h + manSkill[m];
                h = 31L * h + manShip[m];
            }
            return marks.foldInto(notes.foldInto(sights.foldInto(h)));
        }
    }

    /** The text, and how an isle is read of it, token by token. */
    private static final class Text {
        private static final int END = 0, WORD = 1, NUMBER = 2, CLOSE = 3, BLANK = 4, WRONG = 5;
        /** Where a ship's number is told for a man, this is the island. */
        private static final int ASHORE = 9;
        private static final int FAULT = -10;

        private final byte[] bytes = new byte[MOST_TEXT];
        private int length = 0;
        /** The token looked at: what it is, where it begins, where the next may begin, its number. */
        private int token = END;
        private int start = 0;
        private int end = 0;
        private int value = 0;

        int size() {
            return length;
        }

        int append(int c) {
            if (length < MOST_TEXT) {
                bytes[length] = (byte) c;
                length++;
            }
            return length;
        }

        int empty() {
            int before = length;
            length = 0;
            return before;
        }

        /** How many items there are, or -10 less the fault: the token that fails is the one looked at last. */
        int readOnto(Isle isle) {
            isle.empty();
            end = 0;
            for (int items = 0; items <= MOST_TEXT; items++) {
                nextToken();
                if (token == END && items > 0) {
                    return items;
                }
                if (!readItem(isle, items == 0)) {
                    break;
                }
            }
            return FAULT - start;
        }

        private boolean readItem(Isle isle, boolean first) {
            if (token != WORD) {
                return false;
            }
            boolean stands = false;
            if (first) {
                stands = isWord("island");
            } else if (isWord("ship")) {
                stands = readShip(isle);
            } else if (isWord("man")) {
                stands = readMan(isle);
            } else if (isWord("call")) {
                stands = readCall(isle);
            } else if (isWord("board")) {
                stands = readBoard(isle);
            }
            if (!stands) {
                return false;
            }
            nextToken();
            return token == CLOSE;
        }

        private boolean readShip(Isle isle) {
            if (isle.ships >= MOST_SHIPS) {
                return false;
            }
            int kind = nextNumber(0, KINDS - 1);
            return kind != NONE && isle.addShip(kind) != NONE;
        }

        private boolean readMan(Isle isle) {
            if (isle.men >= MOST_MEN) {
                return false;
            }
            int kind = nextNumber(0, KINDS - 1);
            if (kind == NONE) {
                return false;
            }
            int skill = nextNumber(1, MOST_SKILL);
            if (skill == NONE) {
                return false;
            }
            int place = nextNumber(0, ASHORE);
            if (place != ASHORE && !isle.hasShip(place)) {
                return false;
            }
            return isle.addMan(kind, skill, place == ASHORE ? NONE : place) != NONE;
        }

        private boolean readCall(Isle isle) {
            int h = nextNumber(0, isle.ships - 1);
            return isle.hasShip(h) && isle.leaveOne(h) != NONE;
        }

        private boolean readBoard(Isle isle) {
            int h = nextNumber(0, isle.ships - 1);
            if (!isle.hasShip(h)) {
                return false;
            }
            int m = nextNumber(0, isle.men - 1);
            if (!isle.hasMan(m) || isle.manShip[m] != NONE) {
                return false;
            }
            isle.takeAboard(h, m);
            return true;
        }

        private int nextNumber(int least, int most) {
            nextToken();
            return token == NUMBER && value >= least && value <= most ? value : NONE;
        }

        private void nextToken() {
            start = end;
            while (start < length && kindAt(start) == BLANK) {
                start++;
            }
            token = kindAt(start);
            end = token == CLOSE || token == WRONG ? start + 1 : start;
            boolean goesOn = token == WORD || token == NUMBER;
            while (goesOn && end < length && kindAt(end) == token) {
                end++;
            }
            if (token == NUMBER) {
                weighFigures();
            }
        }

        private void weighFigures() {
            value = 0;
            for (int i = start; i < start + 2 && i < end; i++) {
                value = 10 * value + bytes[i] - '0';
            }
            if (end - start > 2) {
                token = WRONG;
            }
        }

        private int kindAt(int place) {
            if (place < 0 || place >= length) {
                return END;
            }
            int c = bytes[place];
            if (c >= 'a' && c <= 'z') {
                return WORD;
            }
            if (c >= '0' && c <= '9') {
                return NUMBER;
            }
            if (c == ';') {
                return CLOSE;
            }
            return c == ' ' ? BLANK : WRONG;
        }

        private boolean isWord(String word) {
            if (word.length() != end - start || start < 0 || end > length) {
                return false;
            }
            for (int i = 0; i < word.length(); i++) {
                if (word.charAt(i) != bytes[start + i]) {
                    return false;
                }
            }
            return true;
        }
    }

    /** The fewest calls of all ships by which the island has such skill. */
    private static final class Fewest {
        private static final int NO_WAY = -6;
        private static final int ROW = MOST_MEN + 1;

        /** By ship and number of her calls: the skills that these leave, and -1 where nobody is left for one. */
        private final int[] skills = new int[MOST_SHIPS * ROW];
        private final int[] made = new int[MOST_SHIPS];

        int madeBy(int h) {
            return h >= 0 && h < MOST_SHIPS ? made[h] : NONE;
        }

        /** Empties the ships of that isle: it must be a spare one. */
        int find(Isle isle, int x) {
            int missing = x - isle.skillsAt(NONE);
            for (int h = 0; h < MOST_SHIPS; h++) {
                fillRow(isle, h);
            }
            for (int total = 0; total <= MOST_MEN; total++) {
                if (findWith(total, missing)) {
                    return total;
                }
            }
            return NO_WAY;
        }

        private void fillRow(Isle isle, int h) {
            int sum = 0;
            for (int calls = 0; calls < ROW; calls++) {
                skills[h * ROW + calls] = sum;
                int m = isle.hasShip(h) && sum >= 0 ? isle.leaveOne(h) : NONE;
                sum = m == NONE ? -1 : sum + isle.manSkill[m];
            }
        }

        private boolean findWith(int total, int missing) {
            for (int first = 0; first <= total; first++) {
                for (int second = 0; second <= total - first; second++) {
                    if (leaves(first, second, total - first - second, missing)) {
                        made[0] = first;
                        made[1] = second;
                        made[2] = total - first - second;
                        return true;
                    }
                }
            }
            return false;
        }

        private boolean leaves(int first, int second, int third, int missing) {
            int a = skills[first];
            int b = skills[ROW + second];
            int c = skills[2 * ROW + third];
            return a >= 0 && b >= 0 && c >= 0 && a + b + c >= missing;
        }
    }

    /**
     * Who should go where so that most ships sail. A way is told as a number with one digit of base
     * four for each man, man 0 foremost: 0 he stays, else 1 more than his ship; so the first way is
     * the least number. As each ship's men give their own part of that number, worth(way) = 65536 for
     * each ship that sails less the number is a sum over ships, and the best sum over all sets of men
     * is found ship by ship, with no need to go through all ways.
     */
    private static final class Crews {
        private static final int SETS = 1 << MOST_MEN;
        private static final int SAILS = 1 << (2 * MOST_MEN);

        /** By set of men: the worth of their all going aboard the ship looked at. */
        private final int[] worth = new int[SETS];
        /** By set of men: the most that they are worth on the ships looked at so far, or staying. */
        private final int[] best = new int[SETS];
        private int found = 0;

        void find(Isle isle, int d) {
            int ashore = isle.bitsAt(NONE) & (SETS - 1);
            for (int set = 0; set < SETS; set++) {
                best[set] = 0;
            }
            for (int h = 0; h < isle.ships; h++) {
                weighSets(isle, h, d, ashore);
                boolean last = h == isle.ships - 1;
                addShipToBest(ashore, last ? ashore : 0);
            }
            found = best[ashore];
        }

        int sailing() {
            return (found + SAILS - 1) / SAILS;
        }

        int placeOf(int m) {
            int way = sailing() * SAILS - found;
            return (way >> (2 * (MOST_MEN - 1 - m)) & 3) - 1;
        }

        private void weighSets(Isle isle, int h, int d, int ashore) {
            int aboard = isle.menAt(h);
            int skillsAboard = isle.skillsAt(h);
            for (int set = 0; set < SETS; set++) {
                if ((set & ~ashore) == 0) {
                    int n = aboard + Integer.bitCount(set);
                    int skills = skillsAboard + skillsOfSet(isle, set);
                    boolean sails = n > 0 && skills >= Kinds.need(isle.shipKind[h], d, n);
                    worth[set] = (sails ? SAILS : 0) - (h + 1) * onesOfSet(set);
                }
            }
        }

        private static int skillsOfSet(Isle isle, int set) {
            int skills = 0;
            for (int m = 0; m < MOST_MEN; m++) {
                if ((set >> m & 1) == 1) {
                    skills += isle.manSkill[m];
                }
            }
            return skills;
        }

        /** The way with the digit 1 for the men of the set. */
        private static int onesOfSet(int set) {
            int way = 0;
            for (int m = 0; m < MOST_MEN; m++) {
                way = 4 * way + (set >> m & 1);
            }
            return way;
        }

        /**
         * Greatest sets first: a set's best looks at its subsets' bests as they were without this ship.
         * No set below the least is asked for again: behind the last ship only that of all is.
         */
        private void addShipToBest(int ashore, int least) {
            for (int set = ashore; set >= least; set--) {
                if ((set & ~ashore) == 0) {
                    best[set] = bestSplit(set);
                }
            }
        }

        private int bestSplit(int set) {
            int most = best[set] + worth[0];
            int aboard = set;
            for (int i = 0; i < SETS && aboard > 0; i++) {
                int split = worth[aboard] + best[set ^ aboard];
                if (split > most) {
                    most = split;
                }
                aboard = (aboard - 1) & set;
            }
            return most;
        }
    }

    /** What fits all that was seen, noted and marked, and what would tell most next. */
    private static final class Inquiry {
        private final int[] answers = new int[KINDS];

        /** Bits 1 to 9: the skills. */
        int skillsOf(Isle isle, int m) {
            int bits = 0;
            for (int s = 1; s <= MOST_SKILL; s++) {
                if (fitsSights(isle, m, s)) {
                    bits |= 1 << s;
                }
            }
            return bits;
        }

        private boolean fitsSights(Isle isle, int m, int s) {
            Fours sights = isle.sights;
            for (int i = 0; i < sights.size(); i++) {
                if (sights.cell(i, 0) == m) {
                    boolean wasLeft = Kinds.liked(isle.manKind[m], s, sights.cell(i, 1)) <= sights.cell(i, 2);
                    if (wasLeft != (sights.cell(i, 3) == 1)) {
                        return false;
                    }
                }
            }
            return true;
        }

        int bestSight(int kind, int skills) {
            int best = NONE;
            int fewest = MOST_SKILL + 1;
            for (int c = 0; skills != 0 && c <= 5; c++) {
                for (int l = 0; l <= 30; l++) {
                    int leaving = leavingAt(kind, skills, c, l);
                    int greater = Math.max(leaving, Integer.bitCount(skills) - leaving);
                    if (greater < fewest) {
                        fewest = greater;
                        best = 100 * c + l;
                    }
                }
            }
            return best;
        }

        private static int leavingAt(int kind, int skills, int c, int l) {
            int leaving = 0;
            for (int s = 1; s <= MOST_SKILL; s++) {
                if ((skills >> s & 1) == 1 && Kinds.liked(kind, s, c) <= l) {
                    leaving++;
                }
            }
            return leaving;
        }

        int shipKindsOf(Isle isle, int h) {
            int bits = 0;
            for (int kind = 0; kind < KINDS; kind++) {
                if (fitsNotes(isle.notes, h, kind)) {
                    bits |= 1 << kind;
                }
            }
            return bits;
        }

        private static boolean fitsNotes(Fours notes, int h, int kind) {
            for (int i = 0; i < notes.size(); i++) {
                if (notes.cell(i, 0) == h
                        && Kinds.need(kind, notes.cell(i, 1), notes.cell(i, 2)) != notes.cell(i, 3)) {
                    return false;
                }
            }
            return true;
        }

        int bestNote(int kinds) {
            int best = NONE;
            int fewest = KINDS + 1;
            for (int d = 1; kinds != 0 && d <= MOST_DISTANCE; d++) {
                for (int n = 0; n <= MOST_MEN; n++) {
                    for (int kind = 0; kind < KINDS; kind++) {
                        answers[kind] = Kinds.need(kind, d, n);
                    }
                    int alike = mostAlike(kinds);
                    if (alike < fewest) {
                        fewest = alike;
                        best = 10 * d + n;
                    }
                }
            }
            return best;
        }

        int manKindsOf(Isle isle, int m) {
            int bits = 0;
            for (int kind = 0; kind < KINDS; kind++) {
                if (fitsMarks(isle.marks, m, kind)) {
                    bits |= 1 << kind;
                }
            }
            return bits;
        }

        private static boolean fitsMarks(Fours marks, int m, int kind) {
            for (int i = 0; i < marks.size(); i++) {
                if (marks.cell(i, 0) == m
                        && Kinds.liked(kind, marks.cell(i, 1), marks.cell(i, 2)) != marks.cell(i, 3)) {
                    return false;
                }
            }
            return true;
        }

        int bestMark(int skill, int kinds) {
            int best = NONE;
            int fewest = KINDS + 1;
            for (int c = 0; kinds != 0 && c <= 9; c++) {
                for (int kind = 0; kind < KINDS; kind++) {
                    answers[kind] = Kinds.liked(kind, skill, c);
                }
                int alike = mostAlike(kinds);
                if (alike < fewest) {
                    fewest = alike;
                    best = c;
                }
            }
            return best;
        }

        /** How many of these kinds, at the most, have the same answer. */
        private int mostAlike(int kinds) {
            int most = 0;
            for (int kind = 0; kind < KINDS; kind++) {
                int alike = 0;
                for (int other = 0; other < KINDS; other++) {
                    if ((kinds >> kind & kinds >> other & 1) == 1 && answers[kind] == answers[other]) {
                        alike++;
                    }
                }
                most = Math.max(most, alike);
            }
            return most;
        }
    }
}
