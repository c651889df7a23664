import java.math.BigInteger;

/** What the Terms tell of FAIRS and DRAWS, and promise 26: fairs. */
final class FairEdges extends Edges {
    private static final BigInteger TIMES = BigInteger.valueOf(1103515245);
    private static final BigInteger AND = BigInteger.valueOf(12345);
    private static final BigInteger REST = BigInteger.ONE.shiftLeft(31);
    private static final int BY = 65536;
    private static final int MOST = Integer.MAX_VALUE;
    private static final int[] SEEDS = {0, 1, 2, 3, 21, 77, 182, 203, 208, 605, 65535, 65536, 12345678, 1073741823,
        1073741824, MOST - 1, MOST};
    /** By the WIND, 0 to 6: the TUNE that is a, b and c in it, and PASSES at TOLL 9 of a CART gate in no other. */
    private static final String[] SOUNDS_IN = {"abc", "gab", "fga", "efg", "def", "cde", "bcd"};

    FairEdges(Sentences doc) {
        super(doc);
    }

    @Override
    void hold() {
        term("FAIRS by a SEED, as they would be:", this::asTheyWouldBe);
        term("so many times one goes", this::soManyTimes);
        term("with the TUNE of a BOOK by a DRAW of 4", this::drawnBook);
        term("to a GATE by a DRAW of how many there are", this::drawnGate);
        term("in a WIND by a DRAW of 7", this::drawnWind);
        term("(who goes with an empty BOOK PAYS 0; nothing is WORN more than it is):", this::emptyAndWorn);
        term("how many PASS; all CHANGE together.", this::passAndChange);
        term("DRAWS: the next SEED each time: 1103515245 times it and 12345, its rest by 2 to the 31;", this::nextSeed);
        term("then that by 65536 (rounded down), its rest.", this::roundedDown);
        promise(26, "FAIRS: what = 0 how many PASS, 1 CHANGE, 2 the SEED then.", this::fairsTold);
        promise(26, "OUTSIDE: times (1 to 60)", this::timesOutside);
        promise(26, "seed (0 at least)", this::seedOutside);
        promise(26, "what;", this::whatOutside);
        promise(26, "STATE: no ROAD.", this::noRoad);
    }

    private static int next(int seed) {
        return TIMES.multiply(BigInteger.valueOf(seed)).add(AND).mod(REST).intValueExact();
    }

    /** The SEED ahead of this one, so many DRAWS back. */
    private static int ahead(int seed, int draws) {
        BigInteger it = BigInteger.valueOf(seed);
        for (int draw = 0; draw < draws; draw++) {
            it = it.subtract(AND).multiply(TIMES.modInverse(REST)).mod(REST);
        }
        return it.intValueExact();
    }

    private static int bookBy(int seed) {
        return next(seed) / BY % 4;
    }

    private static int gateBy(int seed, int gates) {
        return next(next(seed)) / BY % gates;
    }

    private static int windBy(int seed) {
        return next(next(next(seed))) / BY % 7;
    }

    private void asTheyWouldBe() {
        for (int what = 0; what <= 2; what++) {
            int asked = what;
            long want = Scenes.busy().fairs(60, 9, what);
            still(Scenes::busy, "fairs(60, 9, " + what + ")", x -> x.fairs(60, 9, asked), want);
        }
        SoundToll x = Check.made("g01,g01", "a", "a", "a", "a");
        due("fairs(60, 9, 0)", x.fairs(60, 9, 0), 60);
        due("fairs(60, 9, 0) again", x.fairs(60, 9, 0), 60);
        due("nobody passed", x.count(3), 0);
        due("nothing is worn", x.count(5), 0);
    }

    private void soManyTimes() {
        SoundToll x = Check.made("g00,g00", "a");
        for (int times : new int[] {1, 2, 3, 59, 60}) {
            for (int seed : new int[] {0, 7, MOST}) {
                due("fairs(" + times + ", " + seed + ", 0)", x.fairs(times, seed, 0), times);
            }
        }
    }

    private void drawnBook() {
        for (int book = 0; book < 4; book++) {
            String[] tunes = {"", "", "", ""};
            tunes[book] = "a";
            SoundToll x = Check.made("g01,g01", tunes);
            for (int seed : SEEDS) {
                due("fairs(1, " + seed + ", 0) with a tune in book " + book, x.fairs(1, seed, 0),
                        bookBy(seed) == book ? 1 : 0);
            }
        }
        due("seed 21 draws the first book", bookBy(21), 0);
        due("seed 605 draws the last one", bookBy(605), 3);
    }

    private void drawnGate() {
        for (int gates = 2; gates <= 4; gates++) {
            for (int open = 0; open < gates; open++) {
                SoundToll x = Check.made("g99,g99,g99,g99".substring(0, 4 * gates - 1));
                x.toll(open, 0);
                for (int seed : SEEDS) {
                    due("fairs(1, " + seed + ", 0) with gate " + open + " of " + gates, x.fairs(1, seed, 0),
                            gateBy(seed, gates) == open ? 1 : 0);
                }
            }
        }
        due("seed 203 draws the first gate of four", gateBy(203, 4), 0);
        due("seed 605 draws the last one", gateBy(605, 4), 3);
    }

    private void drawnWind() {
        for (int wind = 0; wind < 7; wind++) {
            String tune = SOUNDS_IN[wind];
            SoundToll x = Check.made("c09,c09", tune, tune, tune, tune);
            x.wind(0, 3);
            x.wind(1, 5);
            for (int seed : SEEDS) {
                due("fairs(1, " + seed + ", 0) that passes in wind " + wind, x.fairs(1, seed, 0),
                        windBy(seed) == wind ? 1 : 0);
            }
        }
        due("seed 21 draws no wind", windBy(21), 0);
        due("seed 605 draws wind 6", windBy(605), 6);
    }

    private void emptyAndWorn() {
        SoundToll free = Check.made("g00,b00");
        due("empty books pass at toll 0", free.fairs(60, 5, 0), 60);
        due("with no change", free.fairs(60, 5, 1), 0);
        SoundToll dear = Check.made("g01,b01");
        due("empty books do not pass at toll 1", dear.fairs(60, 5, 0), 0);
        due("with no change", dear.fairs(60, 5, 1), 0);
        SoundToll burnt = Check.made("g01,g01", "aa", "aa", "aa", "aa");
        due("tunes pass", burnt.fairs(60, 5, 0), 60);
        for (int book = 0; book < 4; book++) {
            burnt.go(book, 0);
            burnt.go(book, 1);
        }
        due("worn once they pass", burnt.fairs(60, 5, 0), 60);
        due("with no change", burnt.fairs(60, 5, 1), 0);
        due("again", burnt.fairs(60, 5, 0), 60);
        burnt.go(0, 0);
        due("worn twice one does not", burnt.fairs(60, 5, 0) < 60 ? 1 : 0, 1);
        for (int book = 0; book < 4; book++) {
            burnt.burn(book);
        }
        due("burnt they do not", burnt.fairs(60, 5, 0), 0);
    }

    private void passAndChange() {
        int[] change = {180, 120, 60, 0, 0, 0};
        for (int toll = 0; toll <= 5; toll++) {
            SoundToll x = Check.made("g0" + toll + ",g0" + toll, "abc", "abc", "abc", "abc");
            due("how many pass at toll " + toll, x.fairs(60, 4, 0), toll <= 3 ? 60 : 0);
            due("change at toll " + toll, x.fairs(60, 4, 1), change[toll]);
            due("change of one at toll " + toll, x.fairs(1, 4, 1), change[toll] / 60);
        }
    }

    private void seedThen(int times, int seed, int want) {
        still(() -> Check.made("g00,g00"), "fairs(" + times + ", " + seed + ", 2)", x -> x.fairs(times, seed, 2), want);
    }

    private void nextSeed() {
        seedThen(1, 1755197195, 1103527590);
        seedThen(1, 1158333668, 59559187);
        seedThen(1, 204577074, 12345);
        seedThen(1, 801440601, 1043980748);
        seedThen(1, 80477501, 0);
        seedThen(1, 822234842, 1);
        seedThen(1, 744446467, MOST - 1);
        seedThen(1, 1486203808, MOST);
        seedThen(1, 0, 654583775);
        seedThen(1, MOST, 646343466);
        due("the third draw by 1 is within the rest", next(1), 1103527590);
        due("the third draw by 2 is beyond it", next(2), 59559187);
        for (int first : SEEDS) {
            int seed = first;
            for (int times = 1; times <= 60; times++) {
                seed = next(next(next(seed)));
                if (times < 3 || times > 58) {
                    seedThen(times, first, seed);
                }
            }
        }
    }

    /** The DRAWS just below and at each multiple of 65536. */
    private void roundedDown() {
        for (int part = 1; part <= 8; part++) {
            for (int drawn : new int[] {part * BY - 1, part * BY}) {
                int rest = drawn == part * BY ? part : part - 1;
                due("a book by " + drawn, bookDrawn(ahead(drawn, 1)), rest % 4);
                due("a gate of 2 by " + drawn, gateDrawn(ahead(drawn, 2), 2), rest % 2);
                due("a gate of 3 by " + drawn, gateDrawn(ahead(drawn, 2), 3), rest % 3);
                due("a gate of 4 by " + drawn, gateDrawn(ahead(drawn, 2), 4), rest % 4);
                due("a wind by " + drawn, windDrawn(ahead(drawn, 3)), rest % 7);
            }
        }
        due("a book by the greatest", bookDrawn(ahead(MOST, 1)), 32767 % 4);
        due("a gate by the greatest", gateDrawn(ahead(MOST, 2), 3), 32767 % 3);
        due("a wind by the greatest", windDrawn(ahead(MOST, 3)), 32767 % 7);
        due("a wind by the least", windDrawn(ahead(0, 3)), 0);
    }

    /** The TUNES have 0 to 3 NOTES, so the CHANGE tells the BOOK. */
    private static int bookDrawn(int seed) {
        return Check.made("g00,g00", ".", "a", "aa", "aaa").fairs(1, seed, 1);
    }

    /** Who has 4 NOTES leaves 4 less the TOLL, so the CHANGE tells the GATE. */
    private static int gateDrawn(int seed, int gates) {
        String road = "g04,g03,g02,g01".substring(0, 4 * gates - 1);
        return Check.made(road, "aaaa", "aaaa", "aaaa", "aaaa").fairs(1, seed, 1);
    }

    private static int windDrawn(int seed) {
        for (int wind = 0; wind < 7; wind++) {
            String tune = SOUNDS_IN[wind];
            if (Check.made("c09,c09", tune, tune, tune, tune).fairs(1, seed, 0) == 1) {
                return wind;
            }
        }
        return NONE;
    }

    /** As the other calls tell it, with the WIND set as it is drawn. */
    private static int[] toldByOthers(SoundToll x, int times, int first) {
        int[] told = {0, 0, first};
        for (int time = 0; time < times; time++) {
            int seed = told[2];
            int gate = gateBy(seed, 3);
            int toll = x.gate(gate, 1);
            int blew = x.wind(gate, windBy(seed));
            int paid = Math.max(0, x.pays(bookBy(seed), gate));
            x.wind(gate, blew);
            told[0] += paid >= toll ? 1 : 0;
            told[1] += Math.max(0, paid - toll);
            told[2] = next(next(next(seed)));
        }
        return told;
    }

    private void fairsTold() {
        for (int times : new int[] {1, 2, 59, 60}) {
            for (int seed : new int[] {0, 1, 21, 605, MOST}) {
                int[] want = toldByOthers(Scenes.busy(), times, seed);
                for (int what = 0; what <= 2; what++) {
                    due("fairs(" + times + ", " + seed + ", " + what + ")", Scenes.busy().fairs(times, seed, what),
                            want[what]);
                }
            }
        }
    }

    private void timesOutside() {
        for (int what = 0; what <= 2; what++) {
            int asked = what;
            OfOne call = (x, times) -> x.fairs(times, 7, asked);
            refuses(Scenes::busy, "fairs(.., 7, " + what + ")", call, OUTSIDE, beyond(1, 60));
            refuses(Scenes::roadless, "fairs(.., 7, " + what + ")", call, OUTSIDE, beyond(1, 60));
            due("fairs(1, 7, " + what + ")", call.on(Scenes.busy(), 1) >= 0 ? 1 : 0, 1);
            due("fairs(60, 7, " + what + ")", call.on(Scenes.busy(), 60) >= 0 ? 1 : 0, 1);
        }
    }

    private void seedOutside() {
        OfOne call = (x, seed) -> x.fairs(1, seed, 2);
        refuses(Scenes::busy, "fairs(1, .., 2)", call, OUTSIDE, -1, -2, Integer.MIN_VALUE);
        refuses(Scenes::roadless, "fairs(1, .., 2)", call, OUTSIDE, -1, -2, Integer.MIN_VALUE);
        due("fairs(1, 0, 2)", call.on(Scenes.busy(), 0), 654583775);
        due("fairs(1, the greatest, 2)", call.on(Scenes.busy(), MOST), 646343466);
    }

    private void whatOutside() {
        OfOne call = (x, what) -> x.fairs(1, 0, what);
        refuses(Scenes::busy, "fairs(1, 0, ..)", call, OUTSIDE, beyond(0, 2));
        refuses(Scenes::roadless, "fairs(1, 0, ..)", call, OUTSIDE, beyond(0, 2));
    }

    private void noRoad() {
        for (int times : new int[] {1, 60}) {
            refuses(Scenes::roadless, "fairs(" + times + ", 0, ..)", (x, what) -> x.fairs(times, 0, what),
                    STATE, 0, 1, 2);
            refuses(SoundToll::new, "fairs(" + times + ", " + MOST + ", ..)", (x, what) -> x.fairs(times, MOST, what),
                    STATE, 0, 1, 2);
        }
    }
}
