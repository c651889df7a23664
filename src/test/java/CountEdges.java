import java.math.BigInteger;
import java.util.Arrays;

/** Promises 29 and 30: count, digest. */
final class CountEdges extends Edges {
    private static final BigInteger LONGS = BigInteger.ONE.shiftLeft(64);
    private static final long[] NO_BOOKS = {-1, -1, -1, -1};
    private static final long[] NOTHING_COUNTED = {0, 0, 0, 0, 0, 0, 0, 0, 0, 0, 0};

    CountEdges(Sentences doc) {
        super(doc);
    }

    @Override
    void hold() {
        promise(29, "How many: 0 GATES", this::gates);
        promise(29, "1 BOOKS that are not empty, 2 BEATS of all TUNES", this::booksAndBeats);
        promise(29, "3 who PASSED, 4 what is owed at all GATES, 5 how often all is WORN", this::passedOwedWorn);
        promise(29, "6 twos of a TUNE and a GATE at which it PASSES now", this::twos);
        promise(29, "7 what is SEEN", this::seen);
        promise(29, "8 letters of THE PAGE", this::letters);
        promise(29, "9 how often a ROAD was read", this::roadsRead);
        promise(29, "10 how often a TUNE was written.", this::tunesWritten);
        promise(29, "OUTSIDE.", this::outside);
        promise(30, "h is 1109, then for each of these numbers, in order, 31 times h, and it", this::startsSo);
        promise(30, "(as longs, wrapping):", this::wraps);
        promise(30, "of each BOOK how many BEATS it has (NONE: it is empty);", this::books);
        promise(30, "if it has any, what tune() tells for 1 to 8, each BEAT,", this::tunes);
        promise(30, "what it PAYS at each GATE, how often it is WORN there, SHORT there;", this::tunesAtGates);
        promise(30, "of each GATE what gate() tells for 0 to 8;", this::gatesTold);
        promise(30, "with a ROAD (all up to the next semicolon) what send() tells for 0, 1 and 10 to 13;", this::sends);
        promise(30, "letters of THE PAGE, each by its code;", this::codes);
        promise(30, "what count() tells for 0 to 10.", this::counts);
    }

    private void counted(SoundToll x, int what, int want) {
        due("count(" + what + ")", x.count(what), want);
    }

    private void gates() {
        counted(new SoundToll(), 0, 0);
        counted(Scenes.roadless(), 0, 0);
        counted(Check.made("g00,g00"), 0, 2);
        counted(Check.made("g00,g00,g00,g00"), 0, 4);
        still(Scenes::busy, "count(0)", x -> x.count(0), 3);
    }

    private void booksAndBeats() {
        counted(new SoundToll(), 1, 0);
        counted(new SoundToll(), 2, 0);
        counted(Check.made("", "", "", "", "."), 1, 1);
        counted(Check.made("", "", "", "", "."), 2, 1);
        String most = "4[3[abcde]]";
        SoundToll x = Check.made("", most, most, most, most);
        counted(x, 1, 4);
        counted(x, 2, 240);
        x.burn(3);
        counted(x, 1, 3);
        counted(x, 2, 180);
        Check.write(x, 0, "a");
        counted(x, 1, 3);
        counted(x, 2, 121);
        still(Scenes::busy, "count(1)", y -> y.count(1), 3);
        still(Scenes::busy, "count(2)", y -> y.count(2), 9);
    }

    private void passedOwedWorn() {
        SoundToll x = Check.made("g01,g99", "a", "b");
        int[][] passedOwedWorn = {{0, 0, 0}, {1, 0, 1}, {1, 1, 2}, {1, 99, 3}, {2, 99, 4}};
        int[][] goes = {{0, 0}, {0, 0}, {0, 1}, {1, 0}};
        for (int row = 0; row < passedOwedWorn.length; row++) {
            for (int column = 0; column < 3; column++) {
                counted(x, 3 + column, passedOwedWorn[row][column]);
            }
            if (row < goes.length) {
                x.go(goes[row][0], goes[row][1]);
            }
        }
        x.burn(0);
        counted(x, 3, 2);
        counted(x, 4, 99);
        counted(x, 5, 1);
        for (int what = 3; what <= 5; what++) {
            counted(new SoundToll(), what, 0);
        }
        still(Scenes::busy, "count(3)", y -> y.count(3), 4);
        still(Scenes::busy, "count(4)", y -> y.count(4), 1);
        still(Scenes::busy, "count(5)", y -> y.count(5), 5);
    }

    private void twos() {
        counted(Scenes.roadless(), 6, 0);
        counted(Check.made("g00,g00,g00,g00"), 6, 0);
        counted(Check.made("g00,g00,g00,g00", "a", ".", "b", "c"), 6, 16);
        counted(Check.made("g01,g01,g01,g01", "a", ".", "b", "c"), 6, 12);
        counted(Check.made("g02,g02,g02,g02", "a", ".", "b", "c"), 6, 0);
        counted(Check.made("c03,g99", "c", "g"), 6, 1);
        SoundToll x = Check.made("c03,g02", "a", "dd");
        counted(x, 6, 2);
        x.toll(0, 2);
        counted(x, 6, 3);
        x.go(0, 0);
        counted(x, 6, 3);
        x.go(0, 0);
        counted(x, 6, 2);
        x.wind(0, 4);
        counted(x, 6, 2);
        x.toll(0, 6);
        counted(x, 6, 2);
        x.toll(0, 7);
        counted(x, 6, 1);
    }

    private void seen() {
        SoundToll x = Check.made("g00,g00", "a");
        counted(x, 7, 0);
        for (int seen = 1; seen <= 8; seen++) {
            x.see(0, 0, true);
            counted(x, 7, seen);
        }
        x.see(0, 0, true);
        counted(x, 7, 8);
        x.forget();
        counted(x, 7, 0);
    }

    private void letters() {
        SoundToll x = new SoundToll();
        counted(x, 8, 0);
        for (int letters = 1; letters <= 40; letters++) {
            x.letter(' ');
            counted(x, 8, letters);
        }
        x.letter(' ');
        counted(x, 8, 40);
        x.blank();
        counted(x, 8, 0);
    }

    private void roadsRead() {
        SoundToll x = new SoundToll();
        counted(x, 9, 0);
        Check.lay(x, "g00");
        counted(x, 9, 0);
        Check.lay(x, "g00,g00");
        counted(x, 9, 1);
        Check.lay(x, "g00,g00");
        counted(x, 9, 2);
        x.image();
        x.restore();
        counted(x, 9, 2);
        Check.lay(x, "");
        counted(x, 9, 2);
    }

    private void tunesWritten() {
        SoundToll x = new SoundToll();
        counted(x, 10, 0);
        Check.write(x, 0, "2[a");
        Check.write(x, 4, "a");
        Check.write(x, 0, "4[4[4[a]]]");
        counted(x, 10, 0);
        Check.write(x, 0, "a");
        counted(x, 10, 1);
        Check.write(x, 0, "a");
        counted(x, 10, 2);
        x.burn(0);
        counted(x, 10, 2);
        Check.write(x, 3, "4[3[abcde]]");
        counted(x, 10, 3);
    }

    private void outside() {
        refuses(Scenes::busy, "count", SoundToll::count, OUTSIDE, beyond(0, 10));
        refuses(SoundToll::new, "count", SoundToll::count, OUTSIDE, beyond(0, 10));
        still(Scenes::busy, "count(0)", x -> x.count(0), 3);
        still(Scenes::busy, "count(10)", x -> x.count(10), 3);
    }

    /** What h would be, were there no end to longs. */
    private static BigInteger endless(long[]... numbers) {
        BigInteger h = BigInteger.valueOf(1109);
        for (long[] row : numbers) {
            for (long number : row) {
                h = h.multiply(BigInteger.valueOf(31)).add(BigInteger.valueOf(number));
            }
        }
        return h;
    }

    private void digests(Scenes.Scene scene, String of, long[]... numbers) {
        still(scene, "digest() of " + of, SoundToll::digest, endless(numbers).longValue());
    }

    private static long[] row(long... numbers) {
        return numbers;
    }

    private void startsSo() {
        digests(SoundToll::new, "a new object", NO_BOOKS, NOTHING_COUNTED);
        long h = 1109;
        for (int number = 0; number < 15; number++) {
            h = h * 31 - (number < 4 ? 1 : 0);
        }
        due("digest() of a new object", new SoundToll().digest(), h);
    }

    /** The fewest numbers that a digest has are fifteen, and with these it has wrapped already. */
    private void wraps() {
        BigInteger all = endless(NO_BOOKS, NOTHING_COUNTED);
        due("fifteen numbers are more than a long has", all.bitLength() > 63 ? 1 : 0, 1);
        long rest = all.mod(LONGS).longValue();
        due("digest() of a new object", new SoundToll().digest(), rest);
        long[] counted = NOTHING_COUNTED.clone();
        int below = 0;
        for (int letters = 1; letters <= 40; letters++) {
            long[] codes = new long[letters];
            Arrays.fill(codes, 'z');
            counted[8] = letters;
            long want = endless(NO_BOOKS, codes, counted).mod(LONGS).longValue();
            due("digest() of " + letters + " letters", Scenes.spelt("z".repeat(letters)).digest(), want);
            below += want < 0 ? 1 : 0;
        }
        due("some are below 0, some are not", below > 0 && below < 40 ? 1 : 0, 1);
    }

    private void books() {
        digests(() -> Check.made("", "", "", "", "a"), "book 3", row(-1, -1, -1), row(1, 1, 0, 0, 0, 1, 1, 0, 0, 1),
                row(0, 1, 1, 0, 0, 0, 0, 0, 0, 0, 1));
        digests(() -> Check.made("", "."), "book 0", row(1, 0, 1, 0, -1, 1, 1, 0, 0, 0), row(-1, -1, -1),
                row(0, 1, 1, 0, 0, 0, 0, 0, 0, 0, 1));
        Scenes.Scene burnt = () -> {
            SoundToll x = Check.made("", "a");
            x.burn(0);
            return x;
        };
        digests(burnt, "a burnt book", NO_BOOKS, row(0, 0, 0, 0, 0, 0, 0, 0, 0, 0, 1));
    }

    private void tunes() {
        digests(() -> Check.made("", "", "2[<.(ag)>]"), "a tune", row(-1), row(4, 4, 2, 2, 6, 2, 0, 2, 0),
                row(65, 0, 65, 0), row(-1, -1), row(0, 1, 4, 0, 0, 0, 0, 0, 0, 0, 1));
    }

    private static SoundToll wornOnce() {
        SoundToll x = Check.made("g02,c99", "ab");
        x.go(0, 0);
        return x;
    }

    private void tunesAtGates() {
        digests(CountEdges::wornOnce, "a tune at gates", row(2, 2, 0, 0, 1, 2, 0, 0, 0), row(1, 2),
                row(1, 1, NONE), row(6, 0, NONE), row(-1, -1, -1),
                row(0, 2, 0, 1, 0, 100, 0, 99, 0), row(1, 99, 0, 0, 0, 100, 0, 99, 0),
                row(0, 0, -1, -1, -1, -1), row(2, 1, 2, 1, 0, 1, 0, 0, 0, 1, 1));
        digests(() -> Check.made("g01,s00", "a."), "a tune that passes", row(2, 1, 1, 0, 0, 2, 0, 0, 2), row(1, 0),
                row(1, 0, 1), row(1, 0, 0), row(-1, -1, -1),
                row(0, 1, 0, 0, 0, 100, 0, 99, 0), row(3, 0, 0, 0, 0, 100, 0, 99, 0),
                row(1, 0, 0, -1, -1, -1), row(2, 1, 2, 0, 0, 0, 2, 0, 0, 1, 1));
        digests(Scenes::busy, "the object that is busy",
                row(3, 4, 0, 1, 6, 3, 0, 0, 3), row(1, 2, 68), row(3, 1, 3), row(6, 0, 3), row(9, 1, 3),
                row(4, 3, 1, 0, 6, 4, 0, 2, 2), row(1, 64, 0, 64), row(3, 0, 2), row(1, 2, NONE), row(7, 0, 2),
                row(-1), row(2, 2, 0, 0, 3, 1, 1, 1, 1), row(8, 8), row(1, 1, NONE), row(6, 0, 2), row(1, 0, NONE),
                row(0, 2, 1, 2, 0, 4, 0, 3, 3), row(1, 4, 5, 1, 1, 98, 2, 99, 0), row(4, 3, 0, 1, 0, 98, 2, 99, 0),
                row(3, 7, 0, 2, -1, 1), row('g', '0'), row(3, 3, 9, 4, 1, 5, 6, 3, 2, 1, 3));
    }

    private static SoundToll seenToOwe() {
        SoundToll x = Check.made("d12,b99", "a");
        x.wind(1, 6);
        x.go(0, 0);
        x.see(0, 0, false);
        x.see(0, 1, true);
        x.see(0, 1, false);
        return x;
    }

    private void gatesTold() {
        digests(() -> Check.made("g00,c12"), "two gates", NO_BOOKS, row(0, 0, 0, 0, 0, 100, 0, 99, -1),
                row(1, 12, 0, 0, 0, 100, 0, 99, -1), row(0, 0, -1, -1, -1, -1), row(2, 0, 0, 0, 0, 0, 0, 0, 0, 1, 0));
        digests(CountEdges::seenToOwe, "gates that are seen", row(1, 1, 0, 0, 0, 1, 1, 0, 0), row(1),
                row(1, 1, NONE), row(1, 0, NONE), row(-1, -1, -1),
                row(2, 12, 0, 0, 10, 98, 2, 99, 0), row(4, 99, 6, 0, 0, 0, -1, -1, -1),
                row(0, 0, -1, -1, -1, -1), row(2, 1, 1, 0, 10, 1, 0, 3, 0, 1, 1));
    }

    private void sends() {
        digests(() -> Check.made("g00,g01", "a", "", "", "b"), "tunes that are sent",
                row(1, 1, 0, 0, 0, 1, 1, 0, 2), row(1), row(1, 0, 0), row(1, 0, 1), row(-1, -1),
                row(1, 1, 0, 0, 1, 1, 1, 0, 2), row(2), row(1, 0, 0), row(1, 0, 1),
                row(0, 0, 0, 0, 0, 100, 0, 99, 0), row(0, 1, 0, 0, 0, 100, 0, 99, 0),
                row(2, 1, 0, -1, -1, 1), row(2, 2, 2, 0, 0, 0, 4, 0, 0, 1, 2));
        digests(() -> Check.made("g00,g02", "aa", "", "", "b"), "others that are sent",
                row(2, 2, 0, 0, 0, 1, 1, 0, 2), row(1, 1), row(2, 0, 0), row(2, 0, 2), row(-1, -1),
                row(1, 1, 0, 0, 1, 1, 1, 0, 1), row(2), row(1, 0, 0), row(1, 0, NONE),
                row(0, 0, 0, 0, 0, 100, 0, 99, 0), row(0, 2, 0, 0, 0, 100, 0, 99, 0),
                row(2, 1, 1, -1, -1, 0), row(2, 2, 3, 0, 0, 0, 3, 0, 0, 1, 2));
        digests(() -> Check.made("", "a", "", "", "b"), "tunes without a road", row(1, 1, 0, 0, 0, 1, 1, 0, 0), row(1),
                row(-1, -1), row(1, 1, 0, 0, 1, 1, 1, 0, 0), row(2), row(0, 2, 2, 0, 0, 0, 0, 0, 0, 0, 2));
    }

    private void codes() {
        long[] twoLetters = {0, 0, 0, 0, 0, 0, 0, 0, 2, 0, 0};
        digests(() -> Scenes.spelt("~ "), "a page of two", NO_BOOKS, row(126, 32), twoLetters);
        digests(() -> Scenes.spelt(" ~"), "the same turned", NO_BOOKS, row(32, 126), twoLetters);
        Scenes.Scene blanked = () -> {
            SoundToll x = Scenes.spelt("abc");
            x.blank();
            return x;
        };
        digests(blanked, "a page that is empty again", NO_BOOKS, NOTHING_COUNTED);
    }

    private void counts() {
        Scenes.Scene laidTwice = () -> {
            SoundToll x = Check.made("g00,g00");
            Check.lay(x, "b99,b99");
            return x;
        };
        digests(laidTwice, "a second road", NO_BOOKS, row(4, 99, 0, 0, 0, 100, 0, 99, -1),
                row(4, 99, 0, 0, 0, 100, 0, 99, -1), row(0, 0, -1, -1, -1, -1), row(2, 0, 0, 0, 0, 0, 0, 0, 0, 2, 0));
        Scenes.Scene writtenTwice = () -> {
            SoundToll x = Check.made("", "a", "b");
            x.burn(0);
            x.burn(1);
            Check.spell(x, "z");
            return x;
        };
        digests(writtenTwice, "books that were written", NO_BOOKS, row('z'), row(0, 0, 0, 0, 0, 0, 0, 0, 1, 0, 2));
    }
}
