/**
 * A duchy of heirs in boxes, told in a text: what is done with it, what can be tried on it, and what is seen of it.
 *
 * <p>No call makes an object: every row is made with the object and used again.
 */
public final class BoxedHeirs {
    public static final int NONE = -1, UNKNOWN = -1000000001, OUTSIDE = -1000000002, NOT = -1000000003, FULL = -1000000004;

    private static final int MOST_LETTERS = 240;
    private static final int MOST_BOXES = 7;
    private static final int MOST_NESTINGS = 6;
    private static final int MOST_REGENTS = 6;
    private static final int MOST_RUST = 20;
    private static final int MOST_COUNTED = 999999;
    private static final int LAST_BAR_TO_GO_ON_FROM = 99999;
    private static final int MOST_UNDONE = 16;
    private static final int IMAGES = 2;
    private static final int MOST_SEEN = 6;
    private static final int MOST_ENTRIES = 15;
    private static final int LATEST_END = 9999;
    private static final int BILLION = 1000000000;

    /** How far a box may be shifted when boxes are parted, and over how many bars they have to stay so. */
    private static final int SHIFTS = 10;
    private static final int PARTED_BARS = 60;
    private static final int MOST_PARTED = 4;
    /** A parting is one number, its sum ahead of its figures, so that the least number is the one that is asked. */
    private static final int SUM_PLACE = 10000;
    private static final int NO_PARTING = 1000 * SUM_PLACE;
    private static final int[] FIGURE_PLACES = {1, 10, 100, 1000};

    private final Reader reader = new Reader();
    private final Realm realm = new Realm();
    private final Scene now = new Scene();
    private final Past past = new Past();
    private final Album album = new Album();
    private final Sightings sightings = new Sightings();
    private final Ledger ledger = new Ledger();
    private final Forecast forecast = new Forecast();
    private final Posting posting = new Posting();
    private final long[] marks = new long[MOST_PARTED * SHIFTS];
    private int lastDraw;

    public BoxedHeirs() {
        now.clear();
    }

    // ---- the duchy

    public int feed(int letter) {
        if (letter < 0 || letter > 255) {
            return OUTSIDE;
        }
        return reader.append(letter);
    }

    public int duchy() {
        int fault = reader.parse();
        if (fault != 0) {
            return -10 - fault;
        }
        realm.take(reader.draft);
        now.clear();
        past.forget();
        album.clear();
        sightings.clear();
        ledger.clear();
        return realm.boxes;
    }

    public int fault() {
        return reader.faultAt;
    }

    public int told(int what) {
        switch (what) {
            case 0: return realm.rustEach;
            case 1: return realm.boxes;
            case 2: return realm.regents;
            case 3: return reader.count;
            case 4: return now.bars();
            case 5: return now.whoIsUp();
            case 6: return now.whoSways();
            case 7: return now.whoIsHeld(realm);
            case 8: return now.whoIsDamp();
            case 9: return now.nods();
            case 10: return now.thuds();
            case 11: return sightings.count;
            case 12: return ledger.count;
            case 13: return past.count;
            case 14: return endOfAll(realm, now);
            default: return OUTSIDE;
        }
    }

    public int box(int b, int what) {
        if (!realm.hasBox(b)) {
            return UNKNOWN;
        }
        switch (what) {
            case 0: return realm.tune[b];
            case 1: return realm.hook[b];
            case 2: return realm.spring[b];
            case 3: return realm.kind[b];
            case 4: return now.at(b);
            case 5: return now.isUp(b) ? 1 : 0;
            case 6: return now.swaysOf(b);
            case 7: return now.rustOf(b);
            case 8: return now.forceOf(realm, b);
            case 9: return realm.outer[b];
            case 10: return realm.depthOf(b);
            case 11: return realm.dynastyOf(b);
            case 12: return now.weightOn(realm, b);
            default: return OUTSIDE;
        }
    }

    public int regent(int r, int what) {
        if (!realm.hasRegent(r)) {
            return UNKNOWN;
        }
        switch (what) {
            case 0: return realm.weight[r];
            case 1: return now.seatOf(r);
            default: return OUTSIDE;
        }
    }

    // ---- what is done

    public int bar(int n) {
        int refusal = refusalOfBars(n, 400);
        if (refusal != 0) {
            return refusal;
        }
        past.remember(now);
        for (int i = 0; i < n; i++) {
            now.passBar(realm);
        }
        return now.howManyUp();
    }

    public int wind(int b, int n) {
        if (!realm.hasBox(b)) {
            return UNKNOWN;
        }
        if (n < 1 || n > 60) {
            return OUTSIDE;
        }
        past.remember(now);
        for (int i = 0; i < n; i++) {
            now.turnBox(realm, b);
        }
        return now.at(b);
    }

    public int sit(int r, int b) {
        if (!realm.hasRegent(r) || !realm.hasBox(b)) {
            return UNKNOWN;
        }
        int was = now.seatOf(r);
        if (was == b) {
            return NOT;
        }
        past.remember(now);
        now.seatAt(r, b);
        return was;
    }

    public int rise(int r) {
        if (!realm.hasRegent(r)) {
            return UNKNOWN;
        }
        int was = now.seatOf(r);
        if (was == NONE) {
            return NOT;
        }
        past.remember(now);
        now.seatAt(r, NONE);
        return was;
    }

    public int push(int b) {
        if (!realm.hasBox(b)) {
            return UNKNOWN;
        }
        if (!now.isUp(b)) {
            return NOT;
        }
        past.remember(now);
        return now.pushDown(realm, b);
    }

    public int oil(int b) {
        if (!realm.hasBox(b)) {
            return UNKNOWN;
        }
        past.remember(now);
        int was = now.rustOf(b);
        now.takeRustOff(b);
        return was;
    }

    public int damp(int b, boolean is) {
        if (!realm.hasBox(b)) {
            return UNKNOWN;
        }
        past.remember(now);
        boolean was = now.isDamp(b);
        now.makeDamp(b, is);
        return was ? 1 : 0;
    }

    public int drift(int n) {
        int refusal = refusalOfBars(n, 60);
        if (refusal != 0) {
            return refusal;
        }
        past.remember(now);
        for (int i = 0; i < n; i++) {
            if (realm.boxes > 0) {
                meddle();
            }
            now.passBar(realm);
        }
        return now.howManyUp();
    }

    public int undo() {
        if (past.count == 0) {
            return NOT;
        }
        past.recall(now);
        return past.count;
    }

    // ---- tried

    public int comes(int b) {
        if (!realm.hasBox(b)) {
            return UNKNOWN;
        }
        forecast.fill(realm, now);
        return forecast.behind[b];
    }

    public int order(int n) {
        if (n < 1 || n > 400) {
            return OUTSIDE;
        }
        forecast.fill(realm, now);
        return forecast.inOrder(realm.boxes, n);
    }

    public int both(int b, int c) {
        if (!isPairOfBoxes(b, c)) {
            return UNKNOWN;
        }
        // The tunes stand to each other as now behind tune times tune bars, 3600 at most, so no later bar has to be tried.
        int behind = realm.nextCatch(b, now.at(b));
        for (int round = 0; round < realm.tune[c]; round++) {
            if (realm.isAtCatch(c, now.at(c) + behind)) {
                return behind;
            }
            behind += realm.tune[b];
        }
        return NONE;
    }

    public int ahead(int b, int c) {
        if (!isPairOfBoxes(b, c)) {
            return UNKNOWN;
        }
        int other = realm.nextCatch(c, now.at(c));
        for (int further = 0; further < realm.tune[b]; further++) {
            if (realm.nextCatch(b, now.at(b) + further) < other) {
                return further;
            }
        }
        return NONE;
    }

    public int parted(int set, int what) {
        if (set < 0 || set >= 1 << realm.boxes) {
            return UNKNOWN;
        }
        if (what < 0 || what > 1) {
            return OUTSIDE;
        }
        int count = Integer.bitCount(set);
        if (count < 2 || count > MOST_PARTED) {
            return NOT;
        }
        markCatches(set, count);
        int best = leastParting(marks, count, 0L, 0, NO_PARTING);
        if (best == NO_PARTING) {
            return NONE;
        }
        return what == 0 ? best / SUM_PLACE : best % SUM_PLACE;
    }

    public int quiet(int n, int what) {
        if (n < 1 || n > 400 || what < 0 || what > 1) {
            return OUTSIDE;
        }
        if (!realm.exists()) {
            return NOT;
        }
        int longest = 0;
        int start = NONE;
        int row = 0;
        for (int behind = 1; behind <= n; behind++) {
            row = isAnyAtCatch(behind) ? 0 : row + 1;
            if (row > longest) {
                longest = row;
                start = behind - row;
            }
        }
        return what == 0 ? longest : start;
    }

    public int hold(int b) {
        if (b != NONE && !realm.hasBox(b)) {
            return UNKNOWN;
        }
        posting.fill(realm, now);
        return b == NONE ? posting.howMany() : posting.holder[b];
    }

    public int lasts(int b) {
        if (!realm.hasBox(b)) {
            return UNKNOWN;
        }
        // Rust comes each 99 bars at least and ends at 20, so 2000 bars are never gone beyond.
        int bars = now.bars();
        int each = Math.max(realm.rustEach, 1);
        for (int rust = now.rustOf(b); rust <= MOST_RUST; rust++) {
            if (realm.forceOf(b, rust, now.isDamp(b)) == 0) {
                int times = rust - now.rustOf(b);
                return times == 0 ? 0 : (bars / each + times) * each - bars;
            }
        }
        return NONE;
    }

    public int says(int row) {
        if (row < 1 || row > 99999) {
            return OUTSIDE;
        }
        int sum = 0;
        for (int rest = row; rest > 0; rest /= 10) {
            int b = rest % 10 - 1;
            if (!realm.hasBox(b)) {
                return OUTSIDE;
            }
            sum += realm.tune[b];
        }
        return sum % 26;
    }

    public int dry(int n, int q) {
        if (n < 0 || n > 60 || q < 0 || q > 100) {
            return OUTSIDE;
        }
        long odds = BILLION;
        for (int winter = 0; winter < n; winter++) {
            odds = odds * q / 100;
        }
        return (int) odds;
    }

    // ---- what is seen

    public int see(int x, boolean lifts) {
        if (x < 0 || x > 29) {
            return OUTSIDE;
        }
        return sightings.add(x, lifts);
    }

    public int catches(int bars) {
        if (!isTuneToBeFound(bars)) {
            return OUTSIDE;
        }
        return sightings.allThatFit(bars);
    }

    public int tryBar(int bars) {
        if (!isTuneToBeFound(bars)) {
            return OUTSIDE;
        }
        return sightings.bestToTry(bars);
    }

    public int write(int b, int bar) {
        if (!realm.hasBox(b)) {
            return UNKNOWN;
        }
        if (bar < 0 || bar > 59) {
            return OUTSIDE;
        }
        return ledger.add(b, bar);
    }

    public int tear() {
        int had = sightings.count + ledger.count;
        sightings.clear();
        ledger.clear();
        return had;
    }

    public int judge() {
        return ledger.firstWrong(now);
    }

    // ---- draws, images

    public int seed(int v) {
        if (v < 0) {
            return OUTSIDE;
        }
        int was = lastDraw;
        lastDraw = v;
        return was;
    }

    public int keep(int i) {
        if (!isImage(i)) {
            return UNKNOWN;
        }
        album.put(i, now, lastDraw);
        past.forget();
        return 1;
    }

    public int goBack(int i) {
        if (!isImage(i)) {
            return UNKNOWN;
        }
        if (!album.has(i)) {
            return NOT;
        }
        lastDraw = album.show(i, now);
        past.forget();
        return 1;
    }

    // ---- what several calls share

    private static boolean isImage(int i) {
        return i >= 0 && i < IMAGES;
    }

    private static boolean isTuneToBeFound(int bars) {
        return bars >= 2 && bars <= 30;
    }

    private boolean isPairOfBoxes(int b, int c) {
        return realm.hasBox(b) && realm.hasBox(c) && b != c;
    }

    private int refusalOfBars(int n, int most) {
        if (n < 1 || n > most) {
            return OUTSIDE;
        }
        if (!realm.exists()) {
            return NOT;
        }
        return now.bars() > LAST_BAR_TO_GO_ON_FROM ? FULL : 0;
    }

    private int drawOf(int n) {
        lastDraw = (lastDraw * 1103515245 + 12345) & 0x7fffffff;
        return n > 0 ? lastDraw / 65536 % n : 0;
    }

    /** What the draws do ahead of a bar; asked only if there are boxes. */
    private void meddle() {
        switch (drawOf(6)) {
            case 0:
                now.turnDampness(drawOf(realm.boxes));
                break;
            case 1:
                now.pushDown(realm, drawOf(realm.boxes));
                break;
            case 2:
                if (realm.regents > 0) {
                    int r = drawOf(realm.regents);
                    now.seatAt(r, drawOf(realm.boxes));
                }
                break;
            case 3:
                now.takeRustOff(drawOf(realm.boxes));
                break;
            default:
                break;
        }
    }

    private boolean isAnyAtCatch(int behind) {
        for (int b = 0; b < realm.boxes; b++) {
            if (realm.isAtCatch(b, now.at(b) + behind)) {
                return true;
            }
        }
        return false;
    }

    /** Finds the bar by a sieve: each box in turn puts it off by the bars after which those ahead agree again. */
    private static int endOfAll(Realm realm, Scene scene) {
        if (realm.boxes == 0) {
            return NONE;
        }
        int behind = 1;
        int step = 1;
        for (int b = 0; b < realm.boxes; b++) {
            int bars = Math.max(realm.tune[b], 1);
            for (int i = 0; i < bars && (scene.at(b) + behind) % bars != 0; i++) {
                behind += step;
            }
            if (behind > LATEST_END || (scene.at(b) + behind) % bars != 0) {
                return NONE;
            }
            // A step beyond the latest end leads out, however long it is; the cut keeps it far from wrapping round.
            step = Math.min(leastCommonMultiple(step, bars), LATEST_END + 1);
        }
        return behind;
    }

    private static int leastCommonMultiple(int a, int b) {
        int multiple = a;
        for (int i = 1; i < b && multiple % b != 0; i++) {
            multiple += a;
        }
        return multiple;
    }

    /** Of each box of the set, for each shift, the bars at which it comes to its catch; the first box's row is the last. */
    private void markCatches(int set, int count) {
        int row = count - 1;
        for (int b = 0; b < realm.boxes && row >= 0; b++) {
            if ((set >> b & 1) == 1) {
                for (int shift = 0; shift < SHIFTS; shift++) {
                    marks[row * SHIFTS + shift] = realm.catchesWithin(b, now.at(b) + shift, PARTED_BARS);
                }
                row--;
            }
        }
    }

    /** The least parting of the boxes that are left, next to bars that are taken; {@code best} if none is less. */
    private static int leastParting(long[] marks, int left, long taken, int cost, int best) {
        if (left <= 0 || left > MOST_PARTED) {
            return Math.min(cost, best);
        }
        int least = best;
        int row = left - 1;
        for (int shift = 0; shift < SHIFTS; shift++) {
            int price = cost + shift * (SUM_PLACE + FIGURE_PLACES[row]);
            long mark = marks[row * SHIFTS + shift];
            if (price < least && (mark & taken) == 0L) {
                least = leastParting(marks, row, taken | mark, price, least);
            }
        }
        return least;
    }

    /** The duchy as its text tells it; without one rust comes each 0 bars. */
    private static final class Realm {
        int rustEach;
        int boxes;
        int regents;
        final int[] tune = new int[MOST_BOXES];
        final int[] hook = new int[MOST_BOXES];
        final int[] spring = new int[MOST_BOXES];
        final int[] kind = new int[MOST_BOXES];
        final int[] outer = new int[MOST_BOXES];
        final int[] weight = new int[MOST_REGENTS];

        void clear() {
            rustEach = 0;
            boxes = 0;
            regents = 0;
        }

        void take(Realm other) {
            rustEach = other.rustEach;
            boxes = other.boxes;
            regents = other.regents;
            System.arraycopy(other.tune, 0, tune, 0, MOST_BOXES);
            System.arraycopy(other.hook, 0, hook, 0, MOST_BOXES);
            System.arraycopy(other.spring, 0, spring, 0, MOST_BOXES);
            System.arraycopy(other.kind, 0, kind, 0, MOST_BOXES);
            System.arraycopy(other.outer, 0, outer, 0, MOST_BOXES);
            System.arraycopy(other.weight, 0, weight, 0, MOST_REGENTS);
        }

        void addBox(int bars, int hookBar, int springForce, int kindNumber) {
            if (boxes < MOST_BOXES) {
                tune[boxes] = bars;
                hook[boxes] = hookBar;
                spring[boxes] = springForce;
                kind[boxes] = kindNumber;
                outer[boxes] = NONE;
                boxes++;
            }
        }

        void addRegent(int weighs) {
            if (regents < MOST_REGENTS) {
                weight[regents] = weighs;
                regents++;
            }
        }

        boolean exists() {
            return rustEach > 0;
        }

        boolean hasBox(int b) {
            return b >= 0 && b < boxes;
        }

        boolean hasRegent(int r) {
            return r >= 0 && r < regents;
        }

        int depthOf(int b) {
            int depth = 0;
            for (int a = outer[b]; a >= 0 && depth < MOST_BOXES; a = outer[a]) {
                depth++;
            }
            return depth;
        }

        int dynastyOf(int b) {
            int set = 1 << b;
            // A box is in one of a lesser number, so one way up finds them all.
            for (int c = b + 1; c < boxes; c++) {
                if (outer[c] >= 0 && (set >> outer[c] & 1) == 1) {
                    set |= 1 << c;
                }
            }
            return set;
        }

        int forceOf(int b, int rust, boolean isDamp) {
            int force = spring[b];
            switch (kind[b]) {
                case 0:
                    force -= rust / 2;
                    break;
                case 1:
                    force -= rust;
                    break;
                case 2:
                    force -= rust / 2 + (isDamp ? 2 : 0);
                    break;
                case 4:
                    force += 3 * depthOf(b) - rust / 2;
                    break;
                default:
                    break;
            }
            return Math.max(force, 0);
        }

        /** Whether a bar counted on and on is the bar of the box's catch. */
        boolean isAtCatch(int b, int bar) {
            return bar % Math.max(tune[b], 1) == hook[b];
        }

        /** Behind how many bars, 1 to those of its tune, a box that stands at a bar comes to its catch. */
        int nextCatch(int b, int bar) {
            int bars = Math.max(tune[b], 1);
            int way = (hook[b] - bar) % bars;
            return way > 0 ? way : way + bars;
        }

        /** Behind which of the next bars, 64 at most, it comes to its catch: bit 0 for the first. */
        long catchesWithin(int b, int bar, int bars) {
            long set = 0L;
            int step = Math.max(tune[b], 1);
            for (int behind = nextCatch(b, bar); behind <= bars; behind += step) {
                set |= 1L << (behind - 1);
            }
            return set;
        }
    }

    /** Reads a text, letter by letter, into a draft, up to its first fault. */
    private static final class Reader {
        static final int OUT_OF_PLACE = 1;
        static final int BAD_NUMBER = 2;
        static final int TOO_MANY = 3;
        static final int BAD_NESTING = 4;

        final Realm draft = new Realm();
        final int[] letters = new int[MOST_LETTERS];
        int count;
        int faultAt = NONE;
        int faultKind;
        int place;
        int numberAt;
        int nestings;

        int append(int letter) {
            if (count >= MOST_LETTERS) {
                return FULL;
            }
            letters[count] = letter;
            count++;
            return count;
        }

        /** The number of the fault, or 0; the text is empty then. */
        int parse() {
            draft.clear();
            nestings = 0;
            place = 0;
            faultKind = 0;
            faultAt = NONE;
            skipBlanks();
            for (int i = 0; i < MOST_LETTERS && place < count && faultKind == 0; i++) {
                readClause();
                skipBlanks();
            }
            count = 0;
            return faultKind;
        }

        void readClause() {
            int word = letters[place];
            if (!draft.exists() && word != 'd') {
                blame(OUT_OF_PLACE, place);
                return;
            }
            switch (word) {
                case 'd':
                    readRust();
                    break;
                case 'b':
                    readBox();
                    break;
                case 'i':
                    readNesting();
                    break;
                case 'r':
                    readRegent();
                    break;
                default:
                    blame(OUT_OF_PLACE, place);
                    break;
            }
        }

        void readRust() {
            if (opens(draft.exists())) {
                int each = readNumber(1, 99);
                if (closes()) {
                    draft.rustEach = each;
                }
            }
        }

        void readBox() {
            if (opens(draft.boxes >= MOST_BOXES)) {
                int bars = readNumber(2, 60);
                int hook = readNumber(0, bars - 1);
                int spring = readNumber(1, 20);
                int kind = readNumber(0, 4);
                if (closes()) {
                    draft.addBox(bars, hook, spring, kind);
                }
            }
        }

        void readNesting() {
            if (opens(nestings >= MOST_NESTINGS)) {
                int a = readNumber(0, draft.boxes - 1);
                int b = readNumber(0, draft.boxes - 1);
                if (faultKind == 0 && (a >= b || draft.outer[b] != NONE)) {
                    blame(BAD_NESTING, numberAt);
                }
                if (closes()) {
                    draft.outer[b] = a;
                    nestings++;
                }
            }
        }

        void readRegent() {
            if (opens(draft.regents >= MOST_REGENTS)) {
                int weight = readNumber(1, 30);
                if (closes()) {
                    draft.addRegent(weight);
                }
            }
        }

        /** Goes over the clause's word, if there may be one more of it. */
        boolean opens(boolean isOneTooMany) {
            if (isOneTooMany) {
                blame(TOO_MANY, place);
                return false;
            }
            place++;
            return true;
        }

        /** Goes over the clause's end; true if the clause has no fault. */
        boolean closes() {
            if (faultKind != 0) {
                return false;
            }
            skipBlanks();
            if (place >= count || letters[place] != ';') {
                blame(OUT_OF_PLACE, place);
                return false;
            }
            place++;
            return true;
        }

        /** A number within its bounds; behind a fault nothing more is read. */
        int readNumber(int least, int most) {
            if (faultKind != 0) {
                return NONE;
            }
            skipBlanks();
            numberAt = place;
            int value = 0;
            while (place < count && letters[place] >= '0' && letters[place] <= '9') {
                if (place - numberAt < 3) {
                    value = value * 10 + letters[place] - '0';
                }
                place++;
            }
            int figures = place - numberAt;
            if (figures == 0) {
                blame(OUT_OF_PLACE, place);
            } else if (figures > 3 || value < least || value > most) {
                blame(BAD_NUMBER, numberAt);
            }
            return value;
        }

        void skipBlanks() {
            while (place < count && letters[place] == ' ') {
                place++;
            }
        }

        void blame(int kind, int letter) {
            faultKind = kind;
            faultAt = letter;
        }
    }

    /** All of section 2 in one row of cells, so that it is kept and brought back by one copy. */
    private static final class Scene {
        static final int AT = 0;
        static final int SWAYS = AT + MOST_BOXES;
        static final int RUST = SWAYS + MOST_BOXES;
        static final int SEAT = RUST + MOST_BOXES;
        static final int UP = SEAT + MOST_REGENTS;
        static final int DAMP = UP + 1;
        static final int BARS = DAMP + 1;
        static final int NODS = BARS + 1;
        static final int THUDS = NODS + 1;
        static final int CELLS = THUDS + 1;

        final int[] cells = new int[CELLS];

        void clear() {
            for (int i = 0; i < CELLS; i++) {
                cells[i] = 0;
            }
            for (int r = 0; r < MOST_REGENTS; r++) {
                cells[SEAT + r] = NONE;
            }
        }

        int at(int b) {
            return cells[AT + b];
        }

        boolean isUp(int b) {
            return (cells[UP] >> b & 1) == 1;
        }

        int swaysOf(int b) {
            return cells[SWAYS + b];
        }

        int rustOf(int b) {
            return cells[RUST + b];
        }

        boolean isDamp(int b) {
            return (cells[DAMP] >> b & 1) == 1;
        }

        int seatOf(int r) {
            return cells[SEAT + r];
        }

        int bars() {
            return cells[BARS];
        }

        int nods() {
            return cells[NODS];
        }

        int thuds() {
            return cells[THUDS];
        }

        int whoIsUp() {
            return cells[UP];
        }

        int howManyUp() {
            return Integer.bitCount(cells[UP]);
        }

        int whoIsDamp() {
            return cells[DAMP];
        }

        int whoSways() {
            int set = 0;
            for (int b = 0; b < MOST_BOXES; b++) {
                if (cells[SWAYS + b] > 0) {
                    set |= 1 << b;
                }
            }
            return set;
        }

        int whoIsHeld(Realm realm) {
            int set = 0;
            for (int b = 0; b < realm.boxes; b++) {
                if (isHeldAgainst(realm, b, forceOf(realm, b))) {
                    set |= 1 << b;
                }
            }
            return set;
        }

        int forceOf(Realm realm, int b) {
            return realm.forceOf(b, rustOf(b), isDamp(b));
        }

        /** How rusty a box is behind so many bars, if nobody oils it. */
        int rustBehind(Realm realm, int b, int further) {
            int each = Math.max(realm.rustEach, 1);
            int times = (bars() + further) / each - bars() / each;
            return Math.min(rustOf(b) + times, MOST_RUST);
        }

        int weightOn(Realm realm, int b) {
            int sum = 0;
            for (int r = 0; r < realm.regents; r++) {
                if (cells[SEAT + r] == b) {
                    sum += realm.weight[r];
                }
            }
            return sum;
        }

        boolean isHeldAgainst(Realm realm, int b, int force) {
            int weight = weightOn(realm, b);
            return weight >= 1 && weight >= force;
        }

        boolean isOuterUp(Realm realm, int b) {
            int a = realm.outer[b];
            return a == NONE || isUp(a);
        }

        /** Turns a box by a bar; true if its heir comes up by it. */
        boolean turnBox(Realm realm, int b) {
            int next = cells[AT + b] + 1;
            if (next >= realm.tune[b]) {
                next = 0;
            }
            cells[AT + b] = next;
            if (next != realm.hook[b] || isUp(b)) {
                cells[SWAYS + b] = Math.max(cells[SWAYS + b] - 1, 0);
                return false;
            }
            int force = forceOf(realm, b);
            if (force < 1 || !isOuterUp(realm, b) || isHeldAgainst(realm, b, force)) {
                cells[THUDS] = Math.min(cells[THUDS] + 1, MOST_COUNTED);
                return false;
            }
            cells[UP] |= 1 << b;
            cells[SWAYS + b] = isDamp(b) ? 2 * force : force;
            return true;
        }

        void passBar(Realm realm) {
            int came = 0;
            for (int b = 0; b < realm.boxes; b++) {
                if (turnBox(realm, b)) {
                    came++;
                }
            }
            cells[NODS] = Math.min(cells[NODS] + came * (came - 1) / 2, MOST_COUNTED);
            cells[BARS]++;
            if (realm.rustEach > 0 && cells[BARS] % realm.rustEach == 0) {
                rustAll(realm);
            }
        }

        void rustAll(Realm realm) {
            for (int b = 0; b < realm.boxes; b++) {
                cells[RUST + b] = Math.min(cells[RUST + b] + 1, MOST_RUST);
            }
        }

        /** Nobody within is up while the heir himself is down, so a box that is down has nobody to push. */
        int pushDown(Realm realm, int b) {
            int pushed = cells[UP] & realm.dynastyOf(b);
            for (int c = b; c < realm.boxes; c++) {
                if ((pushed >> c & 1) == 1) {
                    cells[SWAYS + c] = 0;
                }
            }
            cells[UP] &= ~pushed;
            return Integer.bitCount(pushed);
        }

        void seatAt(int r, int b) {
            cells[SEAT + r] = b;
        }

        void takeRustOff(int b) {
            cells[RUST + b] = 0;
        }

        void makeDamp(int b, boolean is) {
            if (is) {
                cells[DAMP] |= 1 << b;
            } else {
                cells[DAMP] &= ~(1 << b);
            }
        }

        void turnDampness(int b) {
            cells[DAMP] ^= 1 << b;
        }
    }

    /** The latest scenes, in a ring: beyond its length the oldest is written over. */
    private static final class Past {
        final int[] cells = new int[MOST_UNDONE * Scene.CELLS];
        int count;
        int top;

        void remember(Scene scene) {
            System.arraycopy(scene.cells, 0, cells, top * Scene.CELLS, Scene.CELLS);
            top = (top + 1) % MOST_UNDONE;
            count = Math.min(count + 1, MOST_UNDONE);
        }

        void recall(Scene scene) {
            if (count > 0) {
                top = (top + MOST_UNDONE - 1) % MOST_UNDONE;
                count--;
                System.arraycopy(cells, top * Scene.CELLS, scene.cells, 0, Scene.CELLS);
            }
        }

        void forget() {
            count = 0;
        }
    }

    /** The images, each with the seed that it keeps. */
    private static final class Album {
        final int[] cells = new int[IMAGES * Scene.CELLS];
        final int[] seeds = new int[IMAGES];
        int kept;

        void clear() {
            kept = 0;
        }

        boolean has(int i) {
            return (kept >> i & 1) == 1;
        }

        void put(int i, Scene scene, int seedThen) {
            System.arraycopy(scene.cells, 0, cells, i * Scene.CELLS, Scene.CELLS);
            seeds[i] = seedThen;
            kept |= 1 << i;
        }

        int show(int i, Scene scene) {
            System.arraycopy(cells, i * Scene.CELLS, scene.cells, 0, Scene.CELLS);
            return seeds[i];
        }
    }

    /** What was seen of the hook over a catch that nobody knows. */
    private static final class Sightings {
        final int[] bars = new int[MOST_SEEN];
        int lifted;
        int count;

        void clear() {
            count = 0;
            lifted = 0;
        }

        int add(int bar, boolean lifts) {
            if (count >= MOST_SEEN) {
                return FULL;
            }
            bars[count] = bar;
            if (lifts) {
                lifted |= 1 << count;
            }
            count++;
            return count;
        }

        static boolean isLiftedAt(int bar, int hook, int tune) {
            int yet = hook >= bar ? hook - bar : hook - bar + tune;
            return yet <= 2;
        }

        boolean fits(int hook, int tune) {
            for (int i = 0; i < count; i++) {
                boolean was = (lifted >> i & 1) == 1;
                if (bars[i] < tune && isLiftedAt(bars[i], hook, tune) != was) {
                    return false;
                }
            }
            return true;
        }

        int allThatFit(int tune) {
            int set = 0;
            for (int hook = 0; hook < tune; hook++) {
                if (fits(hook, tune)) {
                    set |= 1 << hook;
                }
            }
            return set;
        }

        int bestToTry(int tune) {
            int set = allThatFit(tune);
            int all = Integer.bitCount(set);
            int best = NONE;
            // A bar that leaves all of them alike parts nothing, so it has to be less.
            int least = all;
            for (int bar = 0; bar < tune; bar++) {
                int lifts = howManyLift(set, bar, tune);
                int alike = Math.max(lifts, all - lifts);
                if (alike < least) {
                    least = alike;
                    best = bar;
                }
            }
            return best;
        }

        static int howManyLift(int set, int bar, int tune) {
            int lifts = 0;
            for (int hook = 0; hook < tune; hook++) {
                if ((set >> hook & 1) == 1 && isLiftedAt(bar, hook, tune)) {
                    lifts++;
                }
            }
            return lifts;
        }
    }

    /** The book: at which bars boxes are said to be. */
    private static final class Ledger {
        final int[] boxes = new int[MOST_ENTRIES];
        final int[] bars = new int[MOST_ENTRIES];
        int count;

        void clear() {
            count = 0;
        }

        int add(int b, int bar) {
            if (count >= MOST_ENTRIES) {
                return FULL;
            }
            boxes[count] = b;
            bars[count] = bar;
            count++;
            return count;
        }

        int firstWrong(Scene scene) {
            for (int i = 0; i < count; i++) {
                if (scene.at(boxes[i]) != bars[i]) {
                    return i;
                }
            }
            return NONE;
        }
    }

    /** When each heir is up first, if nothing else is done than bars that go by. */
    private static final class Forecast {
        final int[] behind = new int[MOST_BOXES];

        void fill(Realm realm, Scene scene) {
            for (int b = 0; b < realm.boxes; b++) {
                behind[b] = firstUp(realm, scene, b);
            }
        }

        /**
         * Force never grows while bars alone go by, and who sits stays: so the first catch with the outer box up decides
         * for good. That is 60 bars for each box of a nest at most, far below the 4000 that are asked.
         */
        int firstUp(Realm realm, Scene scene, int b) {
            if (scene.isUp(b)) {
                return 0;
            }
            int gone = 0;
            int a = realm.outer[b];
            if (a != NONE) {
                if (behind[a] == NONE) {
                    return NONE;
                }
                // The outer box is turned ahead of it, so the very bar in which that one comes up is early enough.
                gone = Math.max(behind[a] - 1, 0);
            }
            int when = gone + realm.nextCatch(b, scene.at(b) + gone);
            int force = realm.forceOf(b, scene.rustBehind(realm, b, when - 1), scene.isDamp(b));
            boolean rises = force >= 1 && !scene.isHeldAgainst(realm, b, force);
            return rises ? when : NONE;
        }

        int inOrder(int boxes, int bars) {
            int figures = 0;
            int taken = 0;
            for (int i = 0; i < boxes; i++) {
                int b = firstOfTheRest(boxes, bars, taken);
                if (b == NONE) {
                    break;
                }
                taken |= 1 << b;
                figures = figures * 10 + b + 1;
            }
            return figures;
        }

        int firstOfTheRest(int boxes, int bars, int taken) {
            int first = NONE;
            int least = bars + 1;
            for (int b = 0; b < boxes; b++) {
                if ((taken >> b & 1) == 0 && behind[b] >= 1 && behind[b] < least) {
                    least = behind[b];
                    first = b;
                }
            }
            return first;
        }
    }

    /** Regents to boxes, so that the most are held. */
    private static final class Posting {
        static final int USES = 1 << MOST_REGENTS;

        /** How many boxes, from one on, can be held yet, for each set of regents that are used already. */
        final int[] most = new int[(MOST_BOXES + 1) * USES];
        final int[] holder = new int[MOST_BOXES];

        int howMany() {
            return most[0];
        }

        void fill(Realm realm, Scene scene) {
            int uses = 1 << realm.regents;
            for (int used = 0; used < uses; used++) {
                most[realm.boxes * USES + used] = 0;
            }
            for (int b = realm.boxes - 1; b >= 0; b--) {
                int force = scene.forceOf(realm, b);
                for (int used = 0; used < uses; used++) {
                    most[b * USES + used] = mostFrom(realm, b, force, used);
                }
            }
            int used = 0;
            for (int b = 0; b < realm.boxes; b++) {
                holder[b] = firstHolder(realm, b, scene.forceOf(realm, b), used);
                if (holder[b] != NONE) {
                    used |= 1 << holder[b];
                }
            }
        }

        boolean mayHold(Realm realm, int r, int force, int used) {
            return (used >> r & 1) == 0 && realm.weight[r] >= force;
        }

        int mostFrom(Realm realm, int b, int force, int used) {
            int behindIt = (b + 1) * USES;
            int best = most[behindIt + used];
            for (int r = 0; r < realm.regents; r++) {
                if (mayHold(realm, r, force, used)) {
                    best = Math.max(best, 1 + most[behindIt + (used | 1 << r)]);
                }
            }
            return best;
        }

        int firstHolder(Realm realm, int b, int force, int used) {
            int behindIt = (b + 1) * USES;
            for (int r = 0; r < realm.regents; r++) {
                if (mayHold(realm, r, force, used) && 1 + most[behindIt + (used | 1 << r)] == most[b * USES + used]) {
                    return r;
                }
            }
            return NONE;
        }
    }
}
