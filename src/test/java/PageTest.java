/** Promises 1 to 5: a new object, letter, blank, fault, tuneFault. */
public final class PageTest {
    private static final Check CHECK = new Check();

    public static void main(String[] args) {
        newObject();
        letters();
        roadFaults();
        tuneFaults();
        CHECK.end();
    }

    private static void newObject() {
        SoundToll x = new SoundToll();
        for (int what = 0; what <= 10; what++) {
            CHECK.due("new count(" + what + ")", x.count(what), 0);
        }
        for (int number = 0; number < 4; number++) {
            CHECK.due("new tune", x.tune(number, 0), SoundToll.UNKNOWN);
            CHECK.due("new gate", x.gate(number, 0), SoundToll.UNKNOWN);
            CHECK.due("new burn", x.burn(number), SoundToll.STATE);
        }
        CHECK.due("new fault", x.fault(), 0);
        CHECK.due("new tuneFault", x.tuneFault(), 0);
        CHECK.due("new blank", x.blank(), 0);
        CHECK.due("new image", x.image(), SoundToll.STATE);
        CHECK.due("new restore", x.restore(), SoundToll.STATE);
        CHECK.due("new forget", x.forget(), 0);
        long h = 1109;
        for (int book = 0; book < 4; book++) {
            h = 31 * h - 1;
        }
        for (int what = 0; what <= 10; what++) {
            h = 31 * h;
        }
        CHECK.due("new digest", x.digest(), h);
        SoundToll other = Check.made("g00,g00", "a");
        CHECK.due("an object of its own", x.count(0) + x.count(1), 0);
        CHECK.due("another object", other.count(0), 2);
    }

    private static void letters() {
        SoundToll x = new SoundToll();
        for (int code : new int[] {31, 127, 0, -1, 1000, Integer.MIN_VALUE, Integer.MAX_VALUE}) {
            CHECK.still(x, "letter(" + code + ")", () -> x.letter(code), SoundToll.OUTSIDE);
        }
        CHECK.due("letter(32)", x.letter(32), 1);
        CHECK.due("letter(126)", x.letter(126), 2);
        for (int have = 3; have <= 40; have++) {
            CHECK.due("letter " + have, x.letter('a'), have);
        }
        CHECK.still(x, "letter 41", () -> x.letter('a'), SoundToll.FULL);
        CHECK.still(x, "letter 41, of no code", () -> x.letter(127), SoundToll.OUTSIDE);
        CHECK.due("count(8)", x.count(8), 40);
        CHECK.due("blank", x.blank(), 40);
        CHECK.due("blank again", x.blank(), 0);
        CHECK.due("letter behind blank", x.letter('b'), 1);
        CHECK.due("count(8) behind blank", x.count(8), 1);
    }

    private static void roadFault(String text, int want) {
        SoundToll x = new SoundToll();
        Check.spell(x, text);
        CHECK.still(x, "fault of " + text, x::fault, want);
    }

    private static void roadFaults() {
        roadFault("g", 1);
        roadFault("c1", 2);
        roadFault("d12", 3);
        roadFault("s99,", 4);
        roadFault("b00,g", 5);
        roadFault("a", 0);
        roadFault("G00", 0);
        roadFault("e00", 0);
        roadFault("t00", 0);
        roadFault(" g00", 0);
        roadFault("gg", 1);
        roadFault("g/", 1);
        roadFault("g:", 1);
        roadFault("g0,", 2);
        roadFault("g0:", 2);
        roadFault("g000", 3);
        roadFault("g00;", 3);
        roadFault("g00g", 3);
        roadFault("g00,,", 4);
        roadFault("g00,1", 4);
        roadFault("g00,g00", 7);
        roadFault("g00,g00,g00,g00", 15);
        roadFault("g00,g00,g00,g00,", 15);
        roadFault("g00,g00,g00,g00,g00", 15);
        roadFault("g00,g00,g00,x00,x00", 12);
        roadFault("xg00,g00", 0);
    }

    /** What a text left open is not there for the next one. */
    private static void leavesNothing(String left) {
        SoundToll x = new SoundToll();
        Check.spell(x, left);
        CHECK.due("tuneFault of " + left, x.tuneFault(), left.length());
        x.blank();
        Check.spell(x, "(a)c");
        CHECK.due("write behind " + left, x.write(0), 2);
        CHECK.due("beat behind " + left, x.beat(0, 0), 1);
        CHECK.due("depth behind " + left, x.tune(0, 7), 0);
    }

    private static void tuneFault(String text, int want) {
        SoundToll x = new SoundToll();
        Check.spell(x, text);
        CHECK.still(x, "tuneFault of " + text, x::tuneFault, want);
    }

    private static void tuneFaults() {
        tuneFault("abcdefg.", 8);
        tuneFault("h", 0);
        tuneFault("`", 0);
        tuneFault("A", 0);
        tuneFault("a ", 1);
        tuneFault("a,", 1);
        tuneFault("(abg)", 5);
        tuneFault("(", 1);
        tuneFault("(aa", 3);
        tuneFault("()", 1);
        tuneFault("(.", 1);
        tuneFault("(a.", 2);
        tuneFault("(a(", 2);
        tuneFault("(a^b)", 2);
        tuneFault("(ah)", 2);
        tuneFault(")", 0);
        tuneFault("a)", 1);
        tuneFault("1[a]", 0);
        tuneFault("5[a]", 0);
        tuneFault("2", 1);
        tuneFault("2a", 1);
        tuneFault("22[a]", 1);
        tuneFault("2(a)", 1);
        tuneFault("[a]", 0);
        tuneFault("2[]", 2);
        tuneFault("2[a]", 4);
        tuneFault("3[a", 3);
        tuneFault("4[a>", 3);
        tuneFault("<a]", 2);
        tuneFault("<>", 1);
        tuneFault("<a>", 3);
        tuneFault("<a>>", 3);
        tuneFault("2[a]]", 4);
        tuneFault("2[<a]>", 4);
        tuneFault("<2[a>]", 4);
        tuneFault("]", 0);
        tuneFault(">", 0);
        tuneFault("^", 1);
        tuneFault("^^^a", 4);
        tuneFault("^.", 2);
        tuneFault("^2[a]", 5);
        tuneFault("^<a>", 4);
        tuneFault("^(a)", 4);
        tuneFault("^)", 1);
        tuneFault("<a^>", 3);
        tuneFault("2[a^]", 4);
        tuneFault("2[^]", 3);
        tuneFault("(a", 2);
        tuneFault("<(a>", 3);
        tuneFault("2[(a]", 4);
        tuneFault("2[2]", 3);
        tuneFault("4[4[4[4[a]]]]b", 14);
        tuneFault("4[4[4[4[a]]]]b!", 14);
        tuneFault("<".repeat(40), 40);
        tuneFault("^".repeat(40), 40);
        tuneFault("4[".repeat(20), 40);
        tuneFault("<".repeat(19) + "a" + ">".repeat(20), 39);
        SoundToll x = new SoundToll();
        Check.spell(x, "<2[a");
        CHECK.due("tuneFault", x.tuneFault(), 4);
        x.blank();
        Check.spell(x, "a]");
        CHECK.due("nothing is open behind blank", x.tuneFault(), 1);
        for (String left : new String[] {"^", "(b", "2", "2[^", "<c^^", "4[4[4[a]]]"}) {
            leavesNothing(left);
        }
    }
}
