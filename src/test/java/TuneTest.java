/** Promises 9 and 10: tune and beat. */
public final class TuneTest {
    private static final Check CHECK = new Check();

    public static void main(String[] args) {
        told("a", 1, 1, 0, 0, 0, 1, 1, 0);
        told(".", 1, 0, 1, 0, -1, 1, 1, 0);
        told("4[.]", 4, 0, 4, 0, -1, 1, 1, 1);
        told("ab", 2, 2, 0, 0, 1, 2, 0, 0);
        told("2[ab]", 4, 4, 0, 0, 1, 2, 0, 1);
        told("2[ab]a", 5, 5, 0, 0, 1, 2, 1, 1);
        told("abca", 4, 4, 0, 0, 2, 3, 0, 0);
        told("abcba", 5, 5, 0, 0, 2, 4, 1, 0);
        told("abba", 4, 4, 0, 0, 1, 3, 1, 0);
        told("aab", 3, 3, 0, 0, 1, 3, 0, 0);
        told("aabaab", 6, 6, 0, 0, 1, 3, 0, 0);
        told("aabaabb", 7, 7, 0, 0, 1, 7, 0, 0);
        told("(ab).(cdg)g", 4, 6, 1, 2, 6, 4, 0, 0);
        told("(aa).(ab).", 4, 3, 2, 1, 1, 4, 0, 0);
        told("(aa).a.", 4, 2, 2, 0, 0, 2, 0, 0);
        told("(abcdefg)", 1, 7, 0, 1, 6, 1, 1, 0);
        told("g.a", 3, 2, 1, 0, 6, 3, 0, 0);
        told("<<a>>2[b]", 3, 3, 0, 0, 1, 3, 0, 2);
        told("2[<3[a]>]", 6, 6, 0, 0, 0, 1, 1, 3);
        told("^^(ab)", 1, 2, 0, 1, 3, 1, 1, 0);
        told("<a>2[<b>]", 3, 3, 0, 0, 1, 3, 0, 2);
        told("4[3[5]]".replace("5", "abcde"), 60, 60, 0, 0, 4, 5, 0, 2);
        CHECK.due("deepest", Check.made("", "<".repeat(19) + "a" + ">".repeat(19)).tune(0, 7), 19);
        passes();
        beats();
        CHECK.end();
    }

    private static void told(String text, int... want) {
        SoundToll x = Check.made("", text);
        for (int what = 0; what <= 7; what++) {
            int asked = what;
            CHECK.still(x, text + " tune(0, " + what + ")", () -> x.tune(0, asked), want[what]);
        }
        CHECK.due(text + " tune(0, 8)", x.tune(0, 8), 0);
        CHECK.still(x, text + " tune(0, 9)", () -> x.tune(0, 9), SoundToll.OUTSIDE);
        CHECK.still(x, text + " tune(0, -1)", () -> x.tune(0, -1), SoundToll.OUTSIDE);
        CHECK.still(x, text + " tune(1, 0)", () -> x.tune(1, 0), SoundToll.UNKNOWN);
        CHECK.still(x, text + " tune(1, 9)", () -> x.tune(1, 9), SoundToll.UNKNOWN);
        CHECK.still(x, text + " tune(4, 0)", () -> x.tune(4, 0), SoundToll.UNKNOWN);
        CHECK.still(x, text + " tune(-1, 9)", () -> x.tune(-1, 9), SoundToll.UNKNOWN);
    }

    private static void passes() {
        SoundToll x = Check.made("g03,g04,c05,d00", "a(bg)", ".");
        CHECK.due("tune(0, 8)", x.tune(0, 8), 3);
        CHECK.due("tune(1, 8)", x.tune(1, 8), 1);
        x.go(0, 0);
        CHECK.due("worn", x.tune(0, 8), 2);
        x.wind(2, 3);
        CHECK.due("in a wind", x.tune(0, 8), 2);
        x.wind(2, 2);
        CHECK.due("in another wind", x.tune(0, 8), 2);
        x.toll(0, 2);
        CHECK.due("at another toll", x.tune(0, 8), 3);
        x.toll(3, 3);
        CHECK.due("and one more", x.tune(0, 8), 2);
    }

    private static void beats() {
        SoundToll x = Check.made("", "a.(bg)", "c");
        CHECK.due("beat(0, 0)", x.beat(0, 0), 1);
        CHECK.due("beat(0, 1)", x.beat(0, 1), 0);
        CHECK.due("beat(0, 2)", x.beat(0, 2), 66);
        CHECK.due("beat(1, 0)", x.beat(1, 0), 4);
        int[] none = {3, -1, 60, Integer.MIN_VALUE, Integer.MAX_VALUE};
        for (int beat : none) {
            CHECK.still(x, "beat(0, " + beat + ")", () -> x.beat(0, beat), SoundToll.UNKNOWN);
            CHECK.still(x, "beat(" + beat + ", 0)", () -> x.beat(beat, 0), SoundToll.UNKNOWN);
        }
        CHECK.still(x, "beat(1, 1)", () -> x.beat(1, 1), SoundToll.UNKNOWN);
        CHECK.still(x, "beat(2, 0)", () -> x.beat(2, 0), SoundToll.UNKNOWN);
    }
}
