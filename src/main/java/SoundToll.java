/**
 * A road of tollgates that take sound, four books of tunes, and who pays what where.
 * The document ../shared/DOC.md tells what every call answers; its words in capitals are used here.
 * All rows are made in the constructors: no call makes an object.
 */
public final class SoundToll {
    public static final int NONE = -1, UNKNOWN = -101, OUTSIDE = -102, STATE = -103, FULL = -104;

    private static final int BOOKS = 4;
    private static final int LEAST_GATES = 2;
    private static final int MOST_GATES = 4;
    private static final int NOTES = 7;
    private static final int MOST_BEATS = 60;
    private static final int MOST_LETTERS = 40;
    private static final int MOST_SEEN = 8;
    private static final int MOST_TOLL = 99;
    private static final int MOST_WORN = 99;
    private static final int MOST_FAIRS = 60;
    private static final int REST = 0;

    private static final int GATE = 0, CART = 1, DEAF = 2, STEEP = 3, BELL = 4, KINDS = 5;

    private final Page page;
    private final TuneReader reader;
    private final World now;
    private final World kept;
    private final Keeper keeper;
    private final Likeness likeness;
    private final Plan plan;
    private final Fair fair;
    private boolean imageKept;
    private int roadsRead;
    private int tunesWritten;

    public SoundToll() {
        page = new Page();
        reader = new TuneReader();
        now = new World();
        kept = new World();
        keeper = new Keeper();
        likeness = new Likeness();
        plan = new Plan();
        fair = new Fair();
    }

    // ---- texts

    public int letter(int code) {
        if (code < 32 || code > 126) {
            return OUTSIDE;
        }
        return page.add(code) ? page.size : FULL;
    }

    public int blank() {
        int had = page.size;
        page.clear();
        return had;
    }

    public int fault() {
        return RoadText.faultOf(page);
    }

    public int tuneFault() {
        reader.read(page);
        return reader.faultAt;
    }

    public int road() {
        if (!RoadText.isWhole(page)) {
            return STATE;
        }
        now.lay(page);
        page.clear();
        imageKept = false;
        roadsRead++;
        return now.gateCount;
    }

    public int write(int book) {
        if (book < 0 || book >= BOOKS) {
            return UNKNOWN;
        }
        reader.read(page);
        if (!reader.isWhole(page)) {
            return STATE;
        }
        if (reader.tooLong) {
            return FULL;
        }
        Tune tune = now.tunes[book];
        tune.take(reader);
        page.clear();
        tunesWritten++;
        return tune.size;
    }

    public int burn(int book) {
        if (book < 0 || book >= BOOKS) {
            return UNKNOWN;
        }
        Tune tune = now.tunes[book];
        if (tune.size == 0) {
            return STATE;
        }
        int had = tune.size;
        tune.clear();
        return had;
    }

    // ---- tunes

    public int tune(int book, int what) {
        Tune tune = now.tuneIn(book);
        if (tune == null) {
            return UNKNOWN;
        }
        switch (what) {
            case 0: return tune.size;
            case 1: return tune.allNotes();
            case 2: return tune.beatsOf(0, 0);
            case 3: return tune.beatsOf(2, NOTES);
            case 4: return tune.highestNote();
            case 5: return tune.period();
            case 6: return tune.isMirror() ? 1 : 0;
            case 7: return tune.depth;
            case 8: return gatesPassed(tune, 0);
            default: return OUTSIDE;
        }
    }

    public int beat(int book, int beat) {
        Tune tune = now.tuneIn(book);
        if (tune == null || beat < 0 || beat >= tune.size) {
            return UNKNOWN;
        }
        return tune.beatAt(beat);
    }

    public int apart(int a, int b) {
        Tune one = now.tuneIn(a);
        Tune other = now.tuneIn(b);
        if (one == null || other == null) {
            return UNKNOWN;
        }
        return likeness.changesBetween(one, other);
    }

    public int alike(int a, int b, int what) {
        Tune one = now.tuneIn(a);
        Tune other = now.tuneIn(b);
        if (one == null || other == null) {
            return UNKNOWN;
        }
        if (what < 0 || what > 1) {
            return OUTSIDE;
        }
        likeness.findRun(one, other);
        return what == 0 ? likeness.runLength : likeness.runStart;
    }

    public int often(int a, int b) {
        Tune one = now.tuneIn(a);
        Tune other = now.tuneIn(b);
        if (one == null || other == null) {
            return UNKNOWN;
        }
        return likeness.timesFound(one, other);
    }

    // ---- gates

    public int gate(int gate, int what) {
        Gate at = now.gateAt(gate);
        if (at == null) {
            return UNKNOWN;
        }
        switch (what) {
            case 0: return at.kind;
            case 1: return at.toll;
            case 2: return at.wind;
            case 3: return at.passed;
            case 4: return at.owed;
            case 5: return now.seen.tolls(gate);
            case 6: return now.seen.tolls(gate) == 0 ? NONE : now.seen.leastToll(gate);
            case 7: return now.seen.tolls(gate) == 0 ? NONE : now.seen.greatestToll(gate);
            case 8: return bookToTry(at);
            default: return OUTSIDE;
        }
    }

    public int as(int gate, int kind) {
        Gate at = now.gateAt(gate);
        if (at == null) {
            return UNKNOWN;
        }
        if (kind < 0 || kind >= KINDS) {
            return OUTSIDE;
        }
        return at.isOf(kind) ? gate : NONE;
    }

    public int pays(int book, int gate) {
        Tune tune = now.tuneIn(book);
        Gate at = now.gateAt(gate);
        if (tune == null || at == null) {
            return UNKNOWN;
        }
        return keeper.paid(tune, at, at.wind);
    }

    public int worn(int book, int gate) {
        Tune tune = now.tuneIn(book);
        Gate at = now.gateAt(gate);
        if (tune == null || at == null) {
            return UNKNOWN;
        }
        return tune.wornAt(at);
    }

    public int wind(int gate, int wind) {
        Gate at = now.gateAt(gate);
        if (at == null) {
            return UNKNOWN;
        }
        if (wind < 0 || wind >= NOTES) {
            return OUTSIDE;
        }
        int blew = at.wind;
        at.wind = wind;
        return blew;
    }

    public int toll(int gate, int toll) {
        Gate at = now.gateAt(gate);
        if (at == null) {
            return UNKNOWN;
        }
        if (toll < 0 || toll > MOST_TOLL) {
            return OUTSIDE;
        }
        int was = at.toll;
        at.toll = toll;
        return was;
    }

    public int go(int book, int gate) {
        Tune tune = now.tuneIn(book);
        Gate at = now.gateAt(gate);
        if (tune == null || at == null) {
            return UNKNOWN;
        }
        if (tune.wornAt(at) >= MOST_WORN) {
            return FULL;
        }
        int paid = keeper.paid(tune, at, at.wind);
        at.take(paid);
        tune.wear(at);
        return paid;
    }

    // ---- what would be

    public int shortest(int book, int gate) {
        Tune tune = now.tuneIn(book);
        Gate at = now.gateAt(gate);
        if (tune == null || at == null) {
            return UNKNOWN;
        }
        return keeper.fewestBeats(tune, at);
    }

    public int higher(int book, int what) {
        Tune tune = now.tuneIn(book);
        if (tune == null) {
            return UNKNOWN;
        }
        if (what < 0 || what > 1) {
            return OUTSIDE;
        }
        if (now.gateCount == 0) {
            return STATE;
        }
        int best = 0;
        int most = NONE;
        for (int by = 0; by < NOTES; by++) {
            int passed = gatesPassed(tune, by);
            if (passed > most) {
                most = passed;
                best = by;
            }
        }
        return what == 0 ? best : most;
    }

    public int send(int what) {
        int book = what - 10;
        boolean ofBook = book >= 0 && book < BOOKS;
        if (what != 0 && what != 1 && !ofBook) {
            return OUTSIDE;
        }
        if (now.gateCount == 0) {
            return STATE;
        }
        plan.make(now, keeper);
        if (ofBook) {
            return plan.gateOf(book);
        }
        return what == 0 ? plan.sent : plan.change;
    }

    // ---- what is seen

    public int see(int book, int gate, boolean passed) {
        Tune tune = now.tuneIn(book);
        Gate at = now.gateAt(gate);
        if (tune == null || at == null) {
            return UNKNOWN;
        }
        if (now.seen.size >= MOST_SEEN) {
            return FULL;
        }
        now.seen.add(gate, keeper.paid(tune, at, at.wind), passed);
        return now.seen.size;
    }

    public int forget() {
        int had = now.seen.size;
        now.seen.clear();
        return had;
    }

    public int fairs(int times, int seed, int what) {
        if (times < 1 || times > MOST_FAIRS || seed < 0 || what < 0 || what > 2) {
            return OUTSIDE;
        }
        if (now.gateCount == 0) {
            return STATE;
        }
        fair.hold(now, keeper, times, seed);
        if (what == 2) {
            return (int) fair.seed;
        }
        return what == 0 ? fair.passed : fair.change;
    }

    // ---- what is told of all

    public int image() {
        if (now.gateCount == 0) {
            return STATE;
        }
        kept.copyFrom(now);
        imageKept = true;
        return kept.allPassed();
    }

    public int restore() {
        if (!imageKept) {
            return STATE;
        }
        now.copyFrom(kept);
        return now.allPassed();
    }

    public int count(int what) {
        switch (what) {
            case 0: return now.gateCount;
            case 1: return now.fullBooks();
            case 2: return now.allBeats();
            case 3: return now.allPassed();
            case 4: return now.allOwed();
            case 5: return now.allWorn();
            case 6: return passingTwos();
            case 7: return now.seen.size;
            case 8: return page.size;
            case 9: return roadsRead;
            case 10: return tunesWritten;
            default: return OUTSIDE;
        }
    }

    public long digest() {
        long h = 1109;
        for (int book = 0; book < BOOKS; book++) {
            h = withBook(h, book);
        }
        for (int gate = 0; gate < now.gateCount; gate++) {
            for (int what = 0; what <= 8; what++) {
                h = 31 * h + gate(gate, what);
            }
        }
        if (now.gateCount > 0) {
            h = withPlan(h);
        }
        for (int place = 0; place < page.size; place++) {
            h = 31 * h + page.codeAt(place);
        }
        for (int what = 0; what <= 10; what++) {
            h = 31 * h + count(what);
        }
        return h;
    }

    private long withBook(long before, int book) {
        Tune tune = now.tuneIn(book);
        if (tune == null) {
            return 31 * before + NONE;
        }
        long h = 31 * before + tune.size;
        for (int what = 1; what <= 8; what++) {
            h = 31 * h + tune(book, what);
        }
        for (int place = 0; place < tune.size; place++) {
            h = 31 * h + tune.beatAt(place);
        }
        for (int gate = 0; gate < now.gateCount; gate++) {
            h = 31 * h + pays(book, gate);
            h = 31 * h + worn(book, gate);
            h = 31 * h + shortest(book, gate);
        }
        return h;
    }

    private long withPlan(long before) {
        plan.make(now, keeper);
        long h = 31 * before + plan.sent;
        h = 31 * h + plan.change;
        for (int book = 0; book < BOOKS; book++) {
            h = 31 * h + plan.gateOf(book);
        }
        return h;
    }

    /** At how many GATES a TUNE PASSES, sung by so many NOTES higher. */
    private int gatesPassed(Tune tune, int by) {
        int passed = 0;
        for (int number = 0; number < now.gateCount; number++) {
            Gate at = now.gates[number];
            if (keeper.paid(tune, at, at.wind + by) >= at.toll) {
                passed++;
            }
        }
        return passed;
    }

    private int passingTwos() {
        int twos = 0;
        for (int book = 0; book < BOOKS; book++) {
            Tune tune = now.tuneIn(book);
            if (tune != null) {
                twos += gatesPassed(tune, 0);
            }
        }
        return twos;
    }

    /** TRY for a GATE. */
    private int bookToTry(Gate at) {
        if (now.seen.tolls(at.number) == 0) {
            return NONE;
        }
        int best = NONE;
        int fewest = 0;
        for (int book = 0; book < BOOKS; book++) {
            Tune tune = now.tuneIn(book);
            if (tune != null) {
                int left = now.seen.leftAtWorst(at.number, keeper.paid(tune, at, at.wind));
                if (best == NONE || left < fewest) {
                    best = book;
                    fewest = left;
                }
            }
        }
        return best;
    }

    private static boolean isNote(int code) {
        return code >= 'a' && code <= 'g';
    }

    /** A BEAT with all its NOTES by so many (0 or more) higher, a above g. */
    private static int raised(int beat, int by) {
        int turn = by % NOTES;
        return (beat << turn | beat >> NOTES - turn) & (1 << NOTES) - 1;
    }

    /** The highest NOTE of a BEAT, NONE for a REST. */
    private static int highest(int beat) {
        for (int note = NOTES - 1; note >= 0; note--) {
            if ((beat >> note & 1) != 0) {
                return note;
            }
        }
        return NONE;
    }

    /** THE PAGE: letters by their codes. */
    private static final class Page {
        private final int[] codes = new int[MOST_LETTERS];
        int size;

        boolean add(int code) {
            if (size >= MOST_LETTERS) {
                return false;
            }
            codes[size] = code;
            size++;
            return true;
        }

        void clear() {
            size = 0;
        }

        int codeAt(int place) {
            return place < 0 || place >= size ? NONE : codes[place];
        }
    }

    /** How a ROAD stands on THE PAGE: four letters a GATE, the last of them the "," ahead of the next one. */
    private static final class RoadText {
        private static final int STEP = 4;
        private static final int MOST = STEP * MOST_GATES - 1;

        private RoadText() {
        }

        static int faultOf(Page page) {
            for (int place = 0; place < page.size; place++) {
                if (place >= MOST || !fits(place % STEP, page.codeAt(place))) {
                    return place;
                }
            }
            return page.size;
        }

        static boolean isWhole(Page page) {
            return faultOf(page) == page.size
                    && page.size % STEP == STEP - 1
                    && gatesOn(page) >= LEAST_GATES;
        }

        static int gatesOn(Page page) {
            return (page.size + 1) / STEP;
        }

        static int kindOn(Page page, int gate) {
            return kindOf(page.codeAt(gate * STEP));
        }

        static int tollOn(Page page, int gate) {
            int tens = page.codeAt(gate * STEP + 1) - '0';
            return 10 * tens + page.codeAt(gate * STEP + 2) - '0';
        }

        private static boolean fits(int part, int code) {
            if (part == 0) {
                return kindOf(code) != NONE;
            }
            if (part == STEP - 1) {
                return code == ',';
            }
            return code >= '0' && code <= '9';
        }

        private static int kindOf(int code) {
            switch (code) {
                case 'g': return GATE;
                case 'c': return CART;
                case 'd': return DEAF;
                case 's': return STEEP;
                case 'b': return BELL;
                default: return NONE;
            }
        }
    }

    /**
     * Reads THE PAGE as a TUNE, letter by letter, and puts down its BEATS as it goes. A "[" or "<" that
     * is open is a row of starts, times and raises.
     */
    private static final class TuneReader {
        /** What may come next: an ITEM, the NOTES of a "(", or the "[" behind a digit. */
        private static final int ITEM = 0, CHORD = 1, BRACKET = 2;
        /** Stands for "<" among the times of what is open. */
        private static final int BACKWARDS = 0;

        private final int[] beats = new int[MOST_BEATS];
        private final int[] starts = new int[MOST_LETTERS];
        private final int[] times = new int[MOST_LETTERS];
        private final int[] raises = new int[MOST_LETTERS];
        private int open;
        private int next;
        private int chord;
        private int digit;
        /** How many "^" wait for their ITEM. */
        private int raise;
        /** Whether the TUNE that is open has an ITEM and none is wanted, so that it may end here. */
        private boolean mayEnd;
        int faultAt;
        int depth;
        int size;
        boolean tooLong;

        void read(Page page) {
            open = 0;
            next = ITEM;
            raise = 0;
            mayEnd = false;
            depth = 0;
            size = 0;
            tooLong = false;
            faultAt = page.size;
            for (int place = 0; place < page.size; place++) {
                if (!take(page.codeAt(place))) {
                    faultAt = place;
                    return;
                }
            }
        }

        boolean isWhole(Page page) {
            return faultAt == page.size && open == 0 && next == ITEM && mayEnd;
        }

        int beatAt(int place) {
            return place < 0 || place >= size ? REST : beats[place];
        }

        private boolean take(int code) {
            if (next == CHORD) {
                return takeInChord(code);
            }
            if (next == BRACKET) {
                return code == '[' && openUp(digit);
            }
            if (isNote(code)) {
                return finishBeat(1 << code - 'a');
            }
            switch (code) {
                case '.': return finishBeat(REST);
                case '(': return await(CHORD);
                case '2':
                case '3':
                case '4':
                    digit = code - '0';
                    return await(BRACKET);
                case '<': return openUp(BACKWARDS);
                case '^':
                    raise++;
                    return await(ITEM);
                case ']': return mayEnd && open > 0 && times[open - 1] != BACKWARDS && close();
                case '>': return mayEnd && open > 0 && times[open - 1] == BACKWARDS && close();
                default: return false;
            }
        }

        private boolean takeInChord(int code) {
            if (isNote(code)) {
                chord |= 1 << code - 'a';
                return true;
            }
            return code == ')' && chord != 0 && finishBeat(chord);
        }

        private boolean await(int what) {
            next = what;
            chord = 0;
            mayEnd = false;
            return true;
        }

        private boolean finishBeat(int beat) {
            append(raised(beat, raise));
            return finishItem();
        }

        private boolean finishItem() {
            raise = 0;
            next = ITEM;
            mayEnd = true;
            return true;
        }

        private boolean openUp(int often) {
            if (open >= MOST_LETTERS) {
                return false;
            }
            starts[open] = size;
            times[open] = often;
            raises[open] = raise;
            open++;
            depth = Math.max(depth, open);
            raise = 0;
            return await(ITEM);
        }

        private boolean close() {
            open--;
            int start = starts[open];
            if (times[open] == BACKWARDS) {
                turnFrom(start);
            } else {
                repeatFrom(start, times[open]);
            }
            for (int place = start; place < size; place++) {
                beats[place] = raised(beats[place], raises[open]);
            }
            return finishItem();
        }

        private void repeatFrom(int start, int often) {
            int end = size;
            for (int time = 1; time < often; time++) {
                for (int place = start; place < end; place++) {
                    append(beats[place]);
                }
            }
        }

        private void turnFrom(int start) {
            for (int low = start, high = size - 1; low < high; low++, high--) {
                int beat = beats[low];
                beats[low] = beats[high];
                beats[high] = beat;
            }
        }

        /** BEATS never become fewer, so what does not fit need not be known. */
        private void append(int beat) {
            if (size >= MOST_BEATS) {
                tooLong = true;
                return;
            }
            beats[size] = beat;
            size++;
        }
    }

    /** The TUNE of a BOOK, with no BEATS while the BOOK is empty, and how often it is WORN at each GATE. */
    private static final class Tune {
        private final int[] beats = new int[MOST_BEATS];
        private final int[] wear = new int[MOST_GATES];
        int size;
        int depth;

        void take(TuneReader reader) {
            size = Math.min(reader.size, MOST_BEATS);
            depth = reader.depth;
            for (int place = 0; place < size; place++) {
                beats[place] = reader.beatAt(place);
            }
            mend();
        }

        void clear() {
            size = 0;
            depth = 0;
            mend();
        }

        /** It is WORN nowhere then. */
        void mend() {
            for (int number = 0; number < MOST_GATES; number++) {
                wear[number] = 0;
            }
        }

        void copyFrom(Tune other) {
            size = other.size;
            depth = other.depth;
            System.arraycopy(other.beats, 0, beats, 0, MOST_BEATS);
            System.arraycopy(other.wear, 0, wear, 0, MOST_GATES);
        }

        int beatAt(int place) {
            return place < 0 || place >= size ? REST : beats[place];
        }

        int wornAt(Gate at) {
            return wear[at.number];
        }

        void wear(Gate at) {
            wear[at.number]++;
        }

        int wornInAll() {
            int all = 0;
            for (int number = 0; number < MOST_GATES; number++) {
                all += wear[number];
            }
            return all;
        }

        int allNotes() {
            int all = 0;
            for (int place = 0; place < size; place++) {
                all += Integer.bitCount(beats[place]);
            }
            return all;
        }

        /** How many BEATS have from least to most NOTES. */
        int beatsOf(int least, int most) {
            int found = 0;
            for (int place = 0; place < size; place++) {
                int notes = Integer.bitCount(beats[place]);
                if (notes >= least && notes <= most) {
                    found++;
                }
            }
            return found;
        }

        int highestNote() {
            int top = NONE;
            for (int place = 0; place < size; place++) {
                top = Math.max(top, highest(beats[place]));
            }
            return top;
        }

        int period() {
            for (int by = 1; by < size; by++) {
                if (isSameFarther(by)) {
                    return by;
                }
            }
            return size;
        }

        private boolean isSameFarther(int by) {
            for (int place = 0; place < size - by; place++) {
                if (beats[place] != beats[place + by]) {
                    return false;
                }
            }
            return true;
        }

        boolean isMirror() {
            for (int low = 0, high = size - 1; low < high; low++, high--) {
                if (beats[low] != beats[high]) {
                    return false;
                }
            }
            return true;
        }
    }

    /** A GATE of THE ROAD; its number is kept with it because TUNES are WORN by it. */
    private static final class Gate {
        final int number;
        int kind;
        int toll;
        int wind;
        int passed;
        int owed;

        Gate(int number) {
            this.number = number;
        }

        void lay(int newKind, int newToll) {
            kind = newKind;
            toll = newToll;
            wind = 0;
            passed = 0;
            owed = 0;
        }

        void copyFrom(Gate other) {
            kind = other.kind;
            toll = other.toll;
            wind = other.wind;
            passed = other.passed;
            owed = other.owed;
        }

        boolean isOf(int asked) {
            return asked == GATE || asked == kind || asked == STEEP && kind == BELL;
        }

        void take(int paid) {
            if (paid >= toll) {
                passed++;
            } else {
                owed += toll - paid;
            }
        }
    }

    /** What is SEEN, and which TOLLS that leaves: all from the least to the greatest one. */
    private static final class Seen {
        private final int[] gates = new int[MOST_SEEN];
        private final int[] paid = new int[MOST_SEEN];
        private final boolean[] passed = new boolean[MOST_SEEN];
        int size;

        void clear() {
            size = 0;
        }

        void add(int gate, int pay, boolean didPass) {
            if (size >= MOST_SEEN) {
                return;
            }
            gates[size] = gate;
            paid[size] = pay;
            passed[size] = didPass;
            size++;
        }

        void copyFrom(Seen other) {
            size = other.size;
            for (int row = 0; row < MOST_SEEN; row++) {
                gates[row] = other.gates[row];
                paid[row] = other.paid[row];
                passed[row] = other.passed[row];
            }
        }

        int leastToll(int gate) {
            int least = 0;
            for (int row = 0; row < size; row++) {
                if (gates[row] == gate && !passed[row]) {
                    least = Math.max(least, paid[row] + 1);
                }
            }
            return least;
        }

        int greatestToll(int gate) {
            int greatest = MOST_TOLL;
            for (int row = 0; row < size; row++) {
                if (gates[row] == gate && passed[row]) {
                    greatest = Math.min(greatest, paid[row]);
                }
            }
            return greatest;
        }

        int tolls(int gate) {
            return Math.max(0, greatestToll(gate) - leastToll(gate) + 1);
        }

        /** How many TOLLS are left when one goes who PAYS so much, whether he PASSES or not. */
        int leftAtWorst(int gate, int pay) {
            int ifPassed = Math.max(0, Math.min(greatestToll(gate), pay) - leastToll(gate) + 1);
            return Math.max(ifPassed, tolls(gate) - ifPassed);
        }
    }

    /** All that an IMAGE keeps. */
    private static final class World {
        final Tune[] tunes = new Tune[BOOKS];
        final Gate[] gates = new Gate[MOST_GATES];
        final Seen seen = new Seen();
        int gateCount;

        World() {
            for (int book = 0; book < BOOKS; book++) {
                tunes[book] = new Tune();
            }
            for (int number = 0; number < MOST_GATES; number++) {
                gates[number] = new Gate(number);
            }
        }

        /** Null: there is no such BOOK, or it is empty. */
        Tune tuneIn(int book) {
            return book < 0 || book >= BOOKS || tunes[book].size == 0 ? null : tunes[book];
        }

        /** Null: there is no such GATE. */
        Gate gateAt(int number) {
            return number < 0 || number >= gateCount ? null : gates[number];
        }

        /** THE PAGE has a whole ROAD. */
        void lay(Page page) {
            gateCount = Math.min(RoadText.gatesOn(page), MOST_GATES);
            for (int number = 0; number < gateCount; number++) {
                gates[number].lay(RoadText.kindOn(page, number), RoadText.tollOn(page, number));
            }
            for (int book = 0; book < BOOKS; book++) {
                tunes[book].mend();
            }
            seen.clear();
        }

        void copyFrom(World other) {
            gateCount = other.gateCount;
            for (int book = 0; book < BOOKS; book++) {
                tunes[book].copyFrom(other.tunes[book]);
            }
            for (int number = 0; number < MOST_GATES; number++) {
                gates[number].copyFrom(other.gates[number]);
            }
            seen.copyFrom(other.seen);
        }

        int fullBooks() {
            int full = 0;
            for (int book = 0; book < BOOKS; book++) {
                if (tunes[book].size > 0) {
                    full++;
                }
            }
            return full;
        }

        int allBeats() {
            int all = 0;
            for (int book = 0; book < BOOKS; book++) {
                all += tunes[book].size;
            }
            return all;
        }

        int allWorn() {
            int all = 0;
            for (int book = 0; book < BOOKS; book++) {
                all += tunes[book].wornInAll();
            }
            return all;
        }

        int allPassed() {
            int all = 0;
            for (int number = 0; number < gateCount; number++) {
                all += gates[number].passed;
            }
            return all;
        }

        int allOwed() {
            int all = 0;
            for (int number = 0; number < gateCount; number++) {
                all += gates[number].owed;
            }
            return all;
        }
    }

    /** Hears a TUNE at a GATE BEAT by BEAT, and knows what it is WORTH so far. */
    private static final class Keeper {
        /** a, b and c, as bits. */
        private static final int LOW_NOTES = 7;

        private int kind;
        private int wind;
        private int heard;
        private int lastTop;
        private int worth;

        /** What a TUNE PAYS at a GATE in a WIND. */
        int paid(Tune tune, Gate at, int inWind) {
            listen(at, inWind);
            for (int place = 0; place < tune.size; place++) {
                hear(tune.beatAt(place));
            }
            return Math.max(0, worth - tune.wornAt(at));
        }

        /** SHORT for a TUNE and a GATE. */
        int fewestBeats(Tune tune, Gate at) {
            int worn = tune.wornAt(at);
            listen(at, at.wind);
            for (int beats = 0; beats <= tune.size; beats++) {
                if (Math.max(0, worth - worn) >= at.toll) {
                    return beats;
                }
                hear(tune.beatAt(beats));
            }
            return NONE;
        }

        private void listen(Gate at, int inWind) {
            kind = at.kind;
            wind = inWind;
            heard = 0;
            lastTop = NONE;
            worth = 0;
        }

        private void hear(int beat) {
            int blown = raised(beat, wind);
            int top = highest(blown);
            worth += worthOf(blown, climbTo(top));
            heard++;
            if (top != NONE) {
                lastTop = top;
            }
        }

        private int climbTo(int top) {
            if (top == NONE) {
                return 0;
            }
            return lastTop == NONE ? 1 : Math.abs(top - lastTop);
        }

        private int worthOf(int beat, int climb) {
            int notes = Integer.bitCount(beat);
            switch (kind) {
                case CART: return notes + 2 * Integer.bitCount(beat & LOW_NOTES);
                case DEAF: return heard % 2 == 0 ? 2 * notes : 0;
                case STEEP: return climb;
                case BELL: return climb + (notes > 1 ? 3 : 0);
                default: return notes;
            }
        }
    }

    /** APART, ALIKE and OFTEN of two TUNES. */
    private static final class Likeness {
        private final int[] row = new int[MOST_BEATS + 1];
        int runLength;
        int runStart;

        int changesBetween(Tune one, Tune other) {
            for (int j = 0; j <= other.size; j++) {
                row[j] = j;
            }
            for (int i = 1; i <= one.size; i++) {
                int slant = row[0];
                row[0] = i;
                for (int j = 1; j <= other.size; j++) {
                    int same = one.beatAt(i - 1) == other.beatAt(j - 1) ? slant : slant + 1;
                    slant = row[j];
                    row[j] = Math.min(same, 1 + Math.min(slant, row[j - 1]));
                }
            }
            return row[other.size];
        }

        /** A row holds how long the runs are that end with BEAT i of the one and BEAT j - 1 of the other. */
        void findRun(Tune one, Tune other) {
            runLength = 0;
            runStart = NONE;
            for (int j = 0; j <= other.size; j++) {
                row[j] = 0;
            }
            for (int i = 0; i < one.size; i++) {
                for (int j = other.size; j >= 1; j--) {
                    row[j] = one.beatAt(i) == other.beatAt(j - 1) ? row[j - 1] + 1 : 0;
                    if (row[j] > runLength) {
                        runLength = row[j];
                        runStart = i - runLength + 1;
                    }
                }
            }
        }

        int timesFound(Tune one, Tune other) {
            int found = 0;
            for (int start = 0; start <= one.size - other.size; start++) {
                if (stands(one, other, start)) {
                    found++;
                }
            }
            return found;
        }

        private boolean stands(Tune one, Tune other, int start) {
            for (int place = 0; place < other.size; place++) {
                if (one.beatAt(start + place) != other.beatAt(place)) {
                    return false;
                }
            }
            return true;
        }
    }

    /** SEND: tries all ways in the order of their numbers, so that the first one of the best is kept. */
    private static final class Plan {
        /** None, or one of the GATES. */
        private static final int CHOICES = 1 + MOST_GATES;
        private static final int WAYS = CHOICES * CHOICES * CHOICES * CHOICES;

        private final int[][] changes = new int[BOOKS][MOST_GATES];
        private final int[] trial = new int[BOOKS];
        private final int[] best = new int[BOOKS];
        int sent;
        int change;

        void make(World world, Keeper keeper) {
            for (int book = 0; book < BOOKS; book++) {
                for (int number = 0; number < MOST_GATES; number++) {
                    changes[book][number] = changeOf(world.tuneIn(book), world.gateAt(number), keeper);
                }
            }
            sent = NONE;
            change = 0;
            for (int way = 0; way < WAYS; way++) {
                tryWay(way);
            }
        }

        int gateOf(int book) {
            return book < 0 || book >= BOOKS ? NONE : best[book];
        }

        /** NONE: it does not PASS, or there is no such TUNE or GATE. */
        private static int changeOf(Tune tune, Gate at, Keeper keeper) {
            if (tune == null || at == null) {
                return NONE;
            }
            int paid = keeper.paid(tune, at, at.wind);
            return paid >= at.toll ? paid - at.toll : NONE;
        }

        /** A way has a digit for each BOOK, the last one for the last BOOK: 0 is none, else 1 more than the GATE. */
        private void tryWay(int way) {
            int rest = way;
            int taken = 0;
            int sentNow = 0;
            int changeNow = 0;
            for (int book = BOOKS - 1; book >= 0; book--) {
                int number = rest % CHOICES - 1;
                rest /= CHOICES;
                trial[book] = number;
                if (number >= 0) {
                    if (changes[book][number] == NONE || (taken >> number & 1) != 0) {
                        return;
                    }
                    taken |= 1 << number;
                    sentNow++;
                    changeNow += changes[book][number];
                }
            }
            keepIfBetter(sentNow, changeNow);
        }

        private void keepIfBetter(int sentNow, int changeNow) {
            if (sentNow > sent || sentNow == sent && changeNow < change) {
                sent = sentNow;
                change = changeNow;
                System.arraycopy(trial, 0, best, 0, BOOKS);
            }
        }
    }

    /** FAIRS by a SEED. */
    private static final class Fair {
        long seed;
        int passed;
        int change;

        void hold(World world, Keeper keeper, int times, int firstSeed) {
            seed = firstSeed;
            passed = 0;
            change = 0;
            for (int time = 0; time < times; time++) {
                Tune tune = world.tunes[draw(BOOKS)];
                Gate at = world.gates[draw(world.gateCount)];
                int paid = keeper.paid(tune, at, draw(NOTES));
                if (paid >= at.toll) {
                    passed++;
                    change += paid - at.toll;
                }
            }
        }

        private int draw(int of) {
            seed = (1103515245L * seed + 12345L) % (1L << 31);
            return of <= 0 ? 0 : (int) (seed / 65536 % of);
        }
    }
}
