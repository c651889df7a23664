/** Promise 26: fairs. */
public final class FairsTest {
    private static final Check CHECK = new Check();
    private static long seed;

    public static void main(String[] args) {
        byHand();
        asDrawn();
        changesNothing();
        refused();
        CHECK.end();
    }

    private static int draw(int of) {
        seed = (1103515245L * seed + 12345) & 0x7fffffffL;
        return (int) ((seed >> 16) % of);
    }

    private static void byHand() {
        SoundToll x = Check.made("g00,g01", "ab", "", "c", "d");
        CHECK.due("fairs(1, 0, 2)", x.fairs(1, 0, 2), 654583775);
        CHECK.due("fairs(1, 2147483647, 2)", x.fairs(1, 2147483647, 2), 646343466);
        SoundToll free = Check.made("g00,c00");
        CHECK.due("who has no tune pays 0 and passes", free.fairs(60, 3, 0), 60);
        CHECK.due("no change", free.fairs(60, 3, 1), 0);
        SoundToll dear = Check.made("g01,c01");
        CHECK.due("who has no tune pays 0", dear.fairs(60, 3, 0), 0);
        CHECK.due("no change", dear.fairs(60, 3, 1), 0);
    }

    private static SoundToll wornAndBlown() {
        SoundToll x = Check.made("g02,c05,b04", "ab(cg)", "", "ag.g", "4[(ab)]");
        x.go(0, 0);
        x.go(2, 2);
        x.go(2, 2);
        x.wind(1, 5);
        return x;
    }

    private static void asDrawn() {
        for (int times : new int[] {1, 2, 3, 17, 59, 60}) {
            for (int first : new int[] {0, 1, 77, 12345, 2147483647}) {
                fairs(wornAndBlown(), times, first);
            }
        }
    }

    /** A WIND is set as it is drawn: nothing else of a fair is left behind. */
    private static void fairs(SoundToll x, int times, int first) {
        seed = first;
        int passed = 0;
        int change = 0;
        for (int time = 0; time < times; time++) {
            int book = draw(4);
            int gate = draw(3);
            int blew = x.wind(gate, draw(7));
            int paid = Math.max(0, x.pays(book, gate));
            x.wind(gate, blew);
            if (paid >= x.gate(gate, 1)) {
                passed++;
                change += paid - x.gate(gate, 1);
            }
        }
        CHECK.due("fairs(" + times + ", " + first + ", 0)", x.fairs(times, first, 0), passed);
        CHECK.due("fairs(" + times + ", " + first + ", 1)", x.fairs(times, first, 1), change);
        CHECK.due("fairs(" + times + ", " + first + ", 2)", x.fairs(times, first, 2), seed);
    }

    private static void changesNothing() {
        SoundToll x = Check.made("g02,c05", "ab(cg)", "a");
        CHECK.still(x, "fairs", () -> x.fairs(60, 9, 2), x.fairs(60, 9, 2));
        CHECK.due("worn", x.count(5), 0);
        CHECK.due("passed", x.count(3), 0);
        CHECK.due("owed", x.count(4), 0);
    }

    private static void refused() {
        SoundToll x = Check.made("g02,c05", "ab");
        SoundToll none = Check.made("", "ab");
        int[][] out = {{0, 1, 0}, {61, 1, 0}, {-1, 1, 0}, {Integer.MIN_VALUE, 1, 0}, {Integer.MAX_VALUE, 1, 0},
            {1, -1, 0}, {1, Integer.MIN_VALUE, 0}, {1, 1, 3}, {1, 1, -1}, {1, 1, Integer.MAX_VALUE}};
        for (int[] row : out) {
            CHECK.still(x, "fairs", () -> x.fairs(row[0], row[1], row[2]), SoundToll.OUTSIDE);
            CHECK.still(none, "fairs", () -> none.fairs(row[0], row[1], row[2]), SoundToll.OUTSIDE);
        }
        for (int what = 0; what < 3; what++) {
            int asked = what;
            CHECK.still(none, "fairs, no road", () -> none.fairs(60, 0, asked), SoundToll.STATE);
        }
    }
}
