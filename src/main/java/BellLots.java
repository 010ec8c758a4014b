import java.util.Arrays;

/**
 * Bells by lot: towns that exchange their bells each term, as the document DOC.md tells it.
 * Words in capitals in these comments are the document's own.
 */
public final class BellLots {
    public static final int BAD = -1, STATE = -2, FULL = -3, NONE = -9;
    /** What none is, where a number may be below 0. */
    public static final int NO = -1000000;

    private static final int MOST_TOWNS = 6;
    private static final int MOST_OATHS = 6;
    private static final int MOST_LETTERS = 200;
    private static final int MOST_FOUND = 5;
    private static final int MOST_UNDONE = 10;
    private static final int MOST_IMAGES = 2;
    private static final int MOST_LOTS_AHEAD = 20;
    private static final int LAST_LETTER = 255;
    private static final int LAST_TERM = 60;
    private static final int LAST_LOT = 9999;
    private static final int LAST_LOT_SEARCHED = 999;
    private static final int LAST_KIND = 5;
    private static final int HEAVIEST = 99;
    private static final int HIGHEST_NOTE = 6;
    private static final int DEAREST_TOLL = 9;
    private static final int FAULT_BASE = -10;
    private static final int NOT_DUE = 0, KEPT = 1, BROKEN = 2;

    private final Text text = new Text();
    private Told told = new Told();
    private Told spare = new Told();
    private final Hanging hanging = new Hanging();
    private final Hanging trial = new Hanging();
    private final Past past = new Past();
    private final Images images = new Images();
    private final Finds finds = new Finds();
    private final Lot lot = new Lot();
    private long traced;

    public BellLots() {
    }

    // ---- the plain

    public int type(int letter) {
        if (!within(letter, 0, LAST_LETTER)) {
            return BAD;
        }
        return text.append(letter) ? text.length : FULL;
    }

    public int clear() {
        return text.empty();
    }

    public int plain() {
        int items = text.readInto(spare);
        if (items < 0) {
            return items;
        }
        Told read = spare;
        spare = told;
        told = read;
        told.measureWays();
        hanging.begin(told);
        past.empty();
        images.empty();
        finds.empty();
        text.empty();
        return items;
    }

    public int town(int t, int what) {
        if (!told.hasTown(t)) {
            return BAD;
        }
        switch (what) {
            case 0: return at(hanging.bears, t);
            case 1: return at(hanging.bellIn, t);
            case 2: return hanging.townOf(t);
            case 3: return dumbTowns() >> t & 1;
            default: return BAD;
        }
    }

    public int bell(int b, int what) {
        if (!told.hasTown(b)) {
            return BAD;
        }
        switch (what) {
            case 0: return at(told.weight, b);
            case 1: return at(told.note, b);
            case 2: return hanging.townOf(b);
            case 3: return fitsOf(b);
            default: return BAD;
        }
    }

    public int far(int a, int b) {
        return told.hasTown(a) && told.hasTown(b) ? told.wayBetween(a, b) : BAD;
    }

    public int oath(int i, int what) {
        if (!within(i, 0, told.oaths - 1)) {
            return BAD;
        }
        switch (what) {
            case 0: return at(told.oathBell, i);
            case 1: return at(told.oathTown, i);
            case 2: return at(told.oathTerm, i);
            case 3: return at(hanging.oathIs, i);
            default: return BAD;
        }
    }

    public int now(int what) {
        switch (what) {
            case 0: return hanging.term;
            case 1: return hanging.cuts;
            case 2: return bellsAtHome();
            case 3: return dumbTowns();
            case 4: return past.known;
            default: return BAD;
        }
    }

    // ---- what is done

    public int lots(int z) {
        if (!within(z, 0, LAST_LOT)) {
            return BAD;
        }
        if (hanging.term >= LAST_TERM) {
            return STATE;
        }
        past.remember(hanging);
        return hanging.passTerm(told, lot, z);
    }

    public int trades(int a, int b) {
        if (!told.hasTown(a) || !told.hasTown(b) || a == b) {
            return BAD;
        }
        past.remember(hanging);
        int bellOfA = at(hanging.bellIn, a);
        put(hanging.bellIn, a, at(hanging.bellIn, b));
        put(hanging.bellIn, b, bellOfA);
        return hanging.cutTowers(told);
    }

    public int widens(int t, int n) {
        if (!told.hasTown(t) || !within(n, 1, HEAVIEST)) {
            return BAD;
        }
        if (at(told.weight, at(hanging.bellIn, t)) > n) {
            return STATE;
        }
        past.remember(hanging);
        int bore = at(hanging.bears, t);
        put(hanging.bears, t, n);
        return bore;
    }

    public int undo() {
        return past.recallInto(hanging) ? past.known : STATE;
    }

    // ---- where they hang

    public int inLots(int z, int k, int t) {
        if (!within(z, 0, LAST_LOT) || !within(k, 0, MOST_LOTS_AHEAD) || t != -1 && !told.hasTown(t)) {
            return BAD;
        }
        trial.copyFrom(hanging);
        int cut = 0;
        for (int i = 0; i < k; i++) {
            cut += trial.passTerm(told, lot, (z + i) % (LAST_LOT + 1));
        }
        return t == -1 ? cut : at(trial.bellIn, t);
    }

    public int cost(int z) {
        if (!within(z, 0, LAST_LOT)) {
            return BAD;
        }
        lot.drawBy(told.towns, z);
        int sum = 0;
        for (int t = 0; t < told.towns; t++) {
            int from = at(lot.from, t);
            int way = told.wayBetween(from, t);
            if (way == NONE) {
                return NONE;
            }
            sum += at(told.weight, at(hanging.bellIn, from)) * way;
        }
        return sum;
    }

    public int home(int what) {
        switch (what) {
            case 0: return told.towns - rings();
            case 1: return firstTradeHome();
            default: return BAD;
        }
    }

    public int hang(int t) {
        if (t != -1 && !told.hasTown(t)) {
            return BAD;
        }
        // Every TOWER bears the BELL in it: it was told or CUT so, and widens() refuses less. So all may stay, for 0;
        // and a BELL that goes costs 1 at least. No other way is as cheap, and there always is this one.
        return t == -1 ? 0 : at(hanging.bellIn, t);
    }

    public int round(int z) {
        if (!within(z, 0, LAST_LOT)) {
            return BAD;
        }
        lot.drawBy(told.towns, z);
        return lot.repeatsTillSame();
    }

    // ---- oaths

    public int crossed() {
        for (int i = 0; i < told.oaths; i++) {
            for (int j = i + 1; j < told.oaths; j++) {
                if (told.oathsCross(i, j)) {
                    return 10 * i + j;
                }
            }
        }
        return NONE;
    }

    public int oaths(int what) {
        if (!within(what, NOT_DUE, BROKEN)) {
            return BAD;
        }
        int sum = 0;
        for (int i = 0; i < told.oaths; i++) {
            if (at(hanging.oathIs, i) == what) {
                sum++;
            }
        }
        return sum;
    }

    public int strokes(int b, int t) {
        return told.hasTown(b) && told.hasTown(t) ? at(hanging.struck, pair(b, t)) : BAD;
    }

    // ---- what was found, odds

    public int found(int b, int t) {
        if (!told.hasTown(b) || !told.hasTown(t)) {
            return BAD;
        }
        return finds.append(b, t) ? finds.size : FULL;
    }

    public int forget() {
        return finds.empty();
    }

    public int which(int what) {
        if (!within(what, 0, 1)) {
            return BAD;
        }
        int explaining = 0;
        for (int z = 0; z <= LAST_LOT_SEARCHED; z++) {
            lot.drawBy(told.towns, z);
            if (finds.holdBehind(lot, hanging)) {
                if (what == 1) {
                    return z;
                }
                explaining++;
            }
        }
        return what == 1 ? NONE : explaining;
    }

    public int odds(int what) {
        if (!within(what, 0, 1)) {
            return BAD;
        }
        int harmless = harmlessWays();
        int all = allWays();
        int divisor = commonDivisor(harmless, all);
        if (divisor <= 0) {
            return BAD;
        }
        return (what == 0 ? harmless : all) / divisor;
    }

    // ---- kinds, images

    public int rate(int kind, int b) {
        if (!within(kind, 0, LAST_KIND) || !told.hasTown(b)) {
            return NO;
        }
        switch (kind) {
            case 1: return rateGreat(b);
            case 2: return rateCracked(b);
            case 3: return rateStorm(b);
            case 4: return rateRiver(b);
            case 5: return rateCow(b);
            default: return rateBell(b);
        }
    }

    public int keep(int image) {
        return images.keepFrom(image, hanging) ? hanging.term : BAD;
    }

    public int back(int image) {
        if (!within(image, 0, MOST_IMAGES - 1)) {
            return BAD;
        }
        if (!images.bringInto(image, hanging)) {
            return STATE;
        }
        past.empty();
        return hanging.term;
    }

    public int count(int what) {
        switch (what) {
            case 0: return told.towns;
            case 1: return told.roads;
            case 2: return told.oaths;
            case 3: return finds.size;
            case 4: return text.length;
            default: return BAD;
        }
    }

    public long trace() {
        return traced;
    }

    // ---- what several calls need

    private static boolean within(int n, int least, int most) {
        return n >= least && n <= most;
    }

    /** A row's number, 0 beyond its ends: an index that comes out of the data is looked at here. */
    private static int at(int[] row, int i) {
        return i >= 0 && i < row.length ? row[i] : 0;
    }

    /** The same guard as at(), for writing. */
    private static void put(int[] row, int i, int n) {
        if (i >= 0 && i < row.length) {
            row[i] = n;
        }
    }

    /** Where a square table, held as one row, has its number for two of the TOWNS. */
    private static int pair(int a, int b) {
        return a * MOST_TOWNS + b;
    }

    private static int commonDivisor(int a, int b) {
        // Euclid: the smaller number at least halves every two turns, so 64 turns are enough for any int.
        for (int turn = 0; turn < 64 && b != 0; turn++) {
            int rest = a % b;
            a = b;
            b = rest;
        }
        return a;
    }

    private int dumbTowns() {
        int bits = 0;
        for (int t = 0; t < told.towns; t++) {
            if (hasLikeNeighbour(t)) {
                bits |= 1 << t;
            }
        }
        return bits;
    }

    private boolean hasLikeNeighbour(int t) {
        for (int u = 0; u < told.towns; u++) {
            if (at(told.toll, pair(t, u)) > 0 && noteIn(u) == noteIn(t)) {
                return true;
            }
        }
        return false;
    }

    private int noteIn(int t) {
        return at(told.note, at(hanging.bellIn, t));
    }

    private int bellsAtHome() {
        int bits = 0;
        for (int t = 0; t < told.towns; t++) {
            if (at(hanging.bellIn, t) == t) {
                bits |= 1 << t;
            }
        }
        return bits;
    }

    private int fitsOf(int b) {
        int bits = 0;
        for (int t = 0; t < told.towns; t++) {
            if (hanging.bearsBell(told, t, b)) {
                bits |= 1 << t;
            }
        }
        return bits;
    }

    /** How many rings there are of TOWNS that have one another's BELLS; a BELL at HOME is a ring of one. */
    private int rings() {
        int seen = 0;
        int rings = 0;
        for (int t = 0; t < told.towns; t++) {
            if ((seen >> t & 1) == 0) {
                rings++;
            }
            int u = t;
            for (int step = 0; step < told.towns && (seen >> u & 1) == 0; step++) {
                seen |= 1 << u;
                u = at(hanging.bellIn, u);
            }
        }
        return rings;
    }

    private int firstTradeHome() {
        for (int t = 0; t < told.towns; t++) {
            if (at(hanging.bellIn, t) != t) {
                return 10 * t + hanging.townOf(t);
            }
        }
        return NONE;
    }

    /**
     * How many ways there are to hang all BELLS without a CUT. Where a heavier BELL fits, a lighter one does too: so,
     * the heaviest hung first, each has all the TOWNS where it fits but those that the ones before it took.
     */
    private int harmlessWays() {
        int ways = 1;
        for (int b = 0; b < told.towns; b++) {
            ways *= Integer.bitCount(fitsOf(b)) - told.bellsHungBefore(b);
        }
        return ways;
    }

    private int allWays() {
        int ways = 1;
        for (int n = 2; n <= told.towns; n++) {
            ways *= n;
        }
        return ways;
    }

    // ---- the KINDS: each one's body adds its own number to THE TRACE and asks the KIND above once

    private int rateBell(int b) {
        traced += 1;
        return at(told.weight, b);
    }

    private int rateGreat(int b) {
        traced += 10;
        return rateBell(b) + at(told.note, b);
    }

    private int rateCracked(int b) {
        traced += 100;
        return rateBell(b) - at(hanging.bears, hanging.townOf(b));
    }

    private int rateStorm(int b) {
        traced += 1000;
        return 2 * rateGreat(b);
    }

    private int rateRiver(int b) {
        traced += 10000;
        return rateCracked(b) + b;
    }

    private int rateCow(int b) {
        traced += 100000;
        return rateBell(b) + hanging.term;
    }

    /** THE TEXT, and how it is read: TOKEN by TOKEN; the first that can't stand where it is ends the reading. */
    private static final class Text {
        static final int END = 0, NUMBER = 1, WRONG = 2;
        static final int NUMBERS_OF_ITEM = 3;

        private final int[] letters = new int[MOST_LETTERS];
        int length;
        private final int[] numbers = new int[NUMBERS_OF_ITEM];
        private int place;
        /** The latest TOKEN: where it begins; END, NUMBER, WRONG or its one letter; a NUMBER's value. */
        private int start, kind, value;

        boolean append(int letter) {
            if (length >= MOST_LETTERS) {
                return false;
            }
            put(letters, length, letter);
            length++;
            return true;
        }

        int empty() {
            int had = length;
            length = 0;
            return had;
        }

        /** How many ITEMS were read, or FAULT_BASE less FAULT. */
        int readInto(Told told) {
            told.empty();
            place = 0;
            int items = 0;
            nextToken();
            while (kind != END && items < MOST_LETTERS) {
                if (!readItem(told)) {
                    return FAULT_BASE - start;
                }
                items++;
                nextToken();
            }
            return items;
        }

        private boolean readItem(Told told) {
            int item = kind;
            if (!mayBegin(told, item)) {
                return false;
            }
            for (int i = 0; i < NUMBERS_OF_ITEM; i++) {
                nextToken();
                if (kind != NUMBER || !mayStand(told, item, i)) {
                    return false;
                }
                numbers[i] = value;
            }
            nextToken();
            if (kind != ';') {
                return false;
            }
            told.add(item, numbers[0], numbers[1], numbers[2]);
            return true;
        }

        private static boolean mayBegin(Told told, int item) {
            switch (item) {
                case 't': return told.towns < MOST_TOWNS;
                case 'd': return true;
                case 'o': return told.oaths < MOST_OATHS;
                default: return false;
            }
        }

        /** Whether the latest TOKEN, a NUMBER, may be the i-th of this ITEM. */
        private boolean mayStand(Told told, int item, int i) {
            boolean last = i == NUMBERS_OF_ITEM - 1;
            switch (item) {
                case 't': return last ? within(value, 0, HIGHEST_NOTE) : within(value, 1, HEAVIEST);
                case 'd': return last ? within(value, 1, DEAREST_TOLL)
                        : told.hasTown(value) && (i == 0 || value != numbers[0]);
                default: return last ? within(value, 0, LAST_TERM) : told.hasTown(value);
            }
        }

        private void nextToken() {
            while (place < length && at(letters, place) == ' ') {
                place++;
            }
            start = place;
            if (place >= length) {
                kind = END;
                return;
            }
            int letter = at(letters, place);
            if (isDigit(letter)) {
                readNumber();
                return;
            }
            place++;
            kind = letter == 't' || letter == 'd' || letter == 'o' || letter == ';' ? letter : WRONG;
        }

        private void readNumber() {
            value = 0;
            while (place < length && isDigit(at(letters, place))) {
                // What is above 99 stays so: the cap keeps a long row of digits from wrapping round.
                value = Math.min(HEAVIEST + 1, 10 * value + at(letters, place) - '0');
                place++;
            }
            boolean zeroAhead = at(letters, start) == '0' && place - start > 1;
            kind = zeroAhead || value > HEAVIEST ? WRONG : NUMBER;
        }

        private static boolean isDigit(int letter) {
            return letter >= '0' && letter <= '9';
        }
    }

    /** What THE TEXT told: it stays as it is till the next plain(). */
    private static final class Told {
        int towns, roads, oaths;
        final int[] tower = new int[MOST_TOWNS];
        final int[] weight = new int[MOST_TOWNS];
        final int[] note = new int[MOST_TOWNS];
        /** TOLLS by pair(); 0 where there is no ROAD. */
        final int[] toll = new int[MOST_TOWNS * MOST_TOWNS];
        /** FAR by pair(), or NONE. */
        final int[] way = new int[MOST_TOWNS * MOST_TOWNS];
        final int[] oathBell = new int[MOST_OATHS];
        final int[] oathTown = new int[MOST_OATHS];
        final int[] oathTerm = new int[MOST_OATHS];

        void empty() {
            towns = 0;
            roads = 0;
            oaths = 0;
            Arrays.fill(toll, 0);
        }

        /** A BELL has its TOWN's number, so this asks for a BELL as well. */
        boolean hasTown(int t) {
            return within(t, 0, towns - 1);
        }

        void add(int item, int first, int second, int third) {
            if (item == 't') {
                addTown(first, second, third);
            } else if (item == 'd') {
                addRoad(first, second, third);
            } else {
                addOath(first, second, third);
            }
        }

        private void addTown(int bears, int weighs, int sounds) {
            put(tower, towns, Math.max(bears, weighs));
            put(weight, towns, weighs);
            put(note, towns, sounds);
            towns++;
        }

        private void addRoad(int a, int b, int costs) {
            if (at(toll, pair(a, b)) == 0) {
                roads++;
            }
            put(toll, pair(a, b), costs);
            put(toll, pair(b, a), costs);
        }

        private void addOath(int bell, int town, int term) {
            put(oathBell, oaths, bell);
            put(oathTown, oaths, town);
            put(oathTerm, oaths, term);
            oaths++;
        }

        void measureWays() {
            for (int a = 0; a < towns; a++) {
                for (int b = 0; b < towns; b++) {
                    int road = at(toll, pair(a, b));
                    put(way, pair(a, b), a == b ? 0 : road > 0 ? road : NONE);
                }
            }
            for (int by = 0; by < towns; by++) {
                shortenWays(by);
            }
        }

        private void shortenWays(int by) {
            for (int a = 0; a < towns; a++) {
                for (int b = 0; b < towns; b++) {
                    int first = wayBetween(a, by);
                    int second = wayBetween(by, b);
                    int known = wayBetween(a, b);
                    if (first != NONE && second != NONE && (known == NONE || first + second < known)) {
                        put(way, pair(a, b), first + second);
                    }
                }
            }
        }

        int wayBetween(int a, int b) {
            return at(way, pair(a, b));
        }

        boolean oathsCross(int i, int j) {
            boolean sameBell = at(oathBell, i) == at(oathBell, j);
            boolean sameTown = at(oathTown, i) == at(oathTown, j);
            return at(oathTerm, i) == at(oathTerm, j) && sameBell != sameTown;
        }

        /** How many BELLS come before this one, if the heaviest is hung first (alike: by numbers). */
        int bellsHungBefore(int b) {
            int before = 0;
            for (int other = 0; other < towns; other++) {
                int more = at(weight, other) - at(weight, b);
                if (more > 0 || more == 0 && other < b) {
                    before++;
                }
            }
            return before;
        }
    }

    /** NOW: all that lots(), trades() and widens() change, and all that an IMAGE keeps. */
    private static final class Hanging {
        int term, cuts;
        final int[] bellIn = new int[MOST_TOWNS];
        final int[] bears = new int[MOST_TOWNS];
        final int[] oathIs = new int[MOST_OATHS];
        /** STROKES by pair() of BELL and TOWN. */
        final int[] struck = new int[MOST_TOWNS * MOST_TOWNS];

        void begin(Told told) {
            term = 0;
            cuts = 0;
            for (int t = 0; t < MOST_TOWNS; t++) {
                bellIn[t] = t;
            }
            System.arraycopy(told.tower, 0, bears, 0, MOST_TOWNS);
            Arrays.fill(oathIs, NOT_DUE);
            Arrays.fill(struck, 0);
        }

        void copyFrom(Hanging other) {
            term = other.term;
            cuts = other.cuts;
            System.arraycopy(other.bellIn, 0, bellIn, 0, MOST_TOWNS);
            System.arraycopy(other.bears, 0, bears, 0, MOST_TOWNS);
            System.arraycopy(other.oathIs, 0, oathIs, 0, MOST_OATHS);
            System.arraycopy(other.struck, 0, struck, 0, MOST_TOWNS * MOST_TOWNS);
        }

        int townOf(int bell) {
            int t = 0;
            while (t < MOST_TOWNS - 1 && bellIn[t] != bell) {
                t++;
            }
            return t;
        }

        boolean bearsBell(Told told, int t, int bell) {
            return at(bears, t) >= at(told.weight, bell);
        }

        /** The TERM ends as the LOT by z is drawn: what is due is judged before the BELLS go. */
        int passTerm(Told told, Lot lot, int z) {
            judgeOaths(told);
            for (int t = 0; t < told.towns; t++) {
                int spot = pair(at(bellIn, t), t);
                put(struck, spot, at(struck, spot) + 1);
            }
            lot.drawBy(told.towns, z);
            lot.carry(bellIn);
            term++;
            return cutTowers(told);
        }

        private void judgeOaths(Told told) {
            for (int i = 0; i < told.oaths; i++) {
                if (at(told.oathTerm, i) == term) {
                    boolean held = at(bellIn, at(told.oathTown, i)) == at(told.oathBell, i);
                    put(oathIs, i, held ? KEPT : BROKEN);
                }
            }
        }

        int cutTowers(Told told) {
            int cut = 0;
            for (int t = 0; t < told.towns; t++) {
                int bell = at(bellIn, t);
                if (!bearsBell(told, t, bell)) {
                    put(bears, t, at(told.weight, bell));
                    cut++;
                }
            }
            cuts += cut;
            return cut;
        }
    }

    /** A LOT that is drawn: from which TOWN each TOWN gets its next BELL. */
    private static final class Lot {
        final int[] from = new int[MOST_TOWNS];
        private final int[] carried = new int[MOST_TOWNS];
        private int undrawn;

        void drawBy(int towns, int z) {
            undrawn = (1 << towns) - 1;
            for (int t = 0; t < MOST_TOWNS; t++) {
                int left = towns - t;
                from[t] = left > 0 ? takeUndrawn(numberDrawn(z, t) % left) : t;
            }
        }

        private static int numberDrawn(int z, int t) {
            long x = 7919L * z + 6151L * t + 1;
            return (int) (x * x % 65521 / 16);
        }

        private int takeUndrawn(int skip) {
            int t = 0;
            int skipped = 0;
            while (t < MOST_TOWNS - 1 && (skipped < skip || (undrawn >> t & 1) == 0)) {
                skipped += undrawn >> t & 1;
                t++;
            }
            undrawn &= ~(1 << t);
            return t;
        }

        /** All go at once. */
        void carry(int[] bellIn) {
            for (int t = 0; t < MOST_TOWNS; t++) {
                carried[t] = at(bellIn, from[t]);
            }
            for (int t = 0; t < MOST_TOWNS; t++) {
                put(bellIn, t, carried[t]);
            }
        }

        int repeatsTillSame() {
            int repeats = 1;
            for (int t = 0; t < MOST_TOWNS; t++) {
                repeats = leastCommonMultiple(repeats, ringLength(t));
            }
            return repeats;
        }

        private int ringLength(int t) {
            int length = 1;
            int u = from[t];
            while (u != t && length < MOST_TOWNS) {
                u = at(from, u);
                length++;
            }
            return length;
        }

        private static int leastCommonMultiple(int a, int b) {
            int divisor = commonDivisor(a, b);
            return divisor > 0 ? a / divisor * b : a;
        }
    }

    /** What NOW was before the latest changes; a ring, so that the oldest is lost when one too many comes. */
    private static final class Past {
        private final Hanging[] ring = new Hanging[MOST_UNDONE];
        private int newest;
        int known;

        Past() {
            for (int i = 0; i < MOST_UNDONE; i++) {
                ring[i] = new Hanging();
            }
        }

        void empty() {
            known = 0;
        }

        void remember(Hanging hanging) {
            newest = (newest + 1) % MOST_UNDONE;
            known = Math.min(MOST_UNDONE, known + 1);
            if (within(newest, 0, MOST_UNDONE - 1) && ring[newest] != null) {
                ring[newest].copyFrom(hanging);
            }
        }

        boolean recallInto(Hanging hanging) {
            if (known <= 0 || !within(newest, 0, MOST_UNDONE - 1) || ring[newest] == null) {
                return false;
            }
            hanging.copyFrom(ring[newest]);
            newest = (newest + MOST_UNDONE - 1) % MOST_UNDONE;
            known--;
            return true;
        }
    }

    /** The IMAGES. */
    private static final class Images {
        private final Hanging[] row = new Hanging[MOST_IMAGES];
        private final boolean[] kept = new boolean[MOST_IMAGES];

        Images() {
            for (int i = 0; i < MOST_IMAGES; i++) {
                row[i] = new Hanging();
            }
        }

        void empty() {
            for (int i = 0; i < MOST_IMAGES; i++) {
                kept[i] = false;
            }
        }

        boolean keepFrom(int image, Hanging hanging) {
            if (!within(image, 0, MOST_IMAGES - 1) || row[image] == null) {
                return false;
            }
            row[image].copyFrom(hanging);
            kept[image] = true;
            return true;
        }

        boolean bringInto(int image, Hanging hanging) {
            if (!within(image, 0, MOST_IMAGES - 1) || !kept[image] || row[image] == null) {
                return false;
            }
            hanging.copyFrom(row[image]);
            return true;
        }
    }

    /** What was FOUND. */
    private static final class Finds {
        private final int[] bell = new int[MOST_FOUND];
        private final int[] town = new int[MOST_FOUND];
        int size;

        boolean append(int b, int t) {
            if (size >= MOST_FOUND) {
                return false;
            }
            put(bell, size, b);
            put(town, size, t);
            size++;
            return true;
        }

        int empty() {
            int had = size;
            size = 0;
            return had;
        }

        boolean holdBehind(Lot lot, Hanging hanging) {
            for (int i = 0; i < size; i++) {
                int from = at(lot.from, at(town, i));
                if (at(hanging.bellIn, from) != at(bell, i)) {
                    return false;
                }
            }
            return true;
        }
    }
}
