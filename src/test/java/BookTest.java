/** Promises 7 and 8: write, burn, and what a text of a TUNE means. */
public final class BookTest {
    private static final Check CHECK = new Check();

    public static void main(String[] args) {
        items();
        writes();
        refusedWrites();
        manyBeats();
        burns();
        CHECK.end();
    }

    private static void items() {
        CHECK.dueBeats("abcdefg.", "1 2 4 8 16 32 64 0");
        CHECK.dueBeats("(ag)", "65");
        CHECK.dueBeats("(abcdefg)", "127");
        CHECK.dueBeats("(bbb)a", "2 1");
        CHECK.dueBeats("(a)", "1");
        CHECK.dueBeats("2[a]", "1 1");
        CHECK.dueBeats("3[ab]c", "1 2 1 2 1 2 4");
        CHECK.dueBeats("4[.]", "0 0 0 0");
        CHECK.dueBeats("2[a3[b]]", "1 2 2 2 1 2 2 2");
        CHECK.dueBeats("<abc>", "4 2 1");
        CHECK.dueBeats("<ab>c", "2 1 4");
        CHECK.dueBeats("c<ab>", "4 2 1");
        CHECK.dueBeats("<a<bc>d>", "8 2 4 1");
        CHECK.dueBeats("<2[ab]c>", "4 2 1 2 1");
        CHECK.dueBeats("2[<ab>]", "2 1 2 1");
        CHECK.dueBeats("<a>", "1");
        CHECK.dueBeats("^a", "2");
        CHECK.dueBeats("^g", "1");
        CHECK.dueBeats("^.", "0");
        CHECK.dueBeats("^ab", "2 2");
        CHECK.dueBeats("a^^b", "1 8");
        CHECK.dueBeats("^(fg)", "65");
        CHECK.dueBeats("^^^^^^^d", "8");
        CHECK.dueBeats("^^^^^^^^d", "16");
        CHECK.dueBeats("^2[ag]b", "2 1 2 1 2");
        CHECK.dueBeats("^<ab>c", "4 2 4");
        CHECK.dueBeats("^2[a^b]", "2 8 2 8");
        CHECK.dueBeats("^<a^^<bc>>", "16 32 2");
        CHECK.dueBeats("a^2[b]", "1 4 4");
        CHECK.dueBeats("^^2[^a]^b", "8 8 4");
        CHECK.dueBeats("(ab)(c)", "3 4");
        CHECK.dueBeats("2[(ab)].", "3 3 0");
    }

    private static void writes() {
        SoundToll x = Check.made("g00,c09");
        CHECK.due("write(0)", Check.write(x, 0, "abc"), 3);
        CHECK.due("page is empty", x.count(8), 0);
        CHECK.due("write(3)", Check.write(x, 3, "2[ab]"), 4);
        CHECK.due("book 1 is empty", x.tune(1, 0), SoundToll.UNKNOWN);
        x.go(0, 0);
        x.go(0, 1);
        x.go(3, 1);
        CHECK.due("another tune", Check.write(x, 0, "d"), 1);
        CHECK.due("its beats", x.tune(0, 0), 1);
        CHECK.due("its beat", x.beat(0, 0), 8);
        CHECK.due("worn nowhere", x.worn(0, 0) + x.worn(0, 1), 0);
        CHECK.due("the other one is worn", x.worn(3, 1), 1);
        CHECK.due("passed stays", x.count(3), 3);
        x.go(0, 0);
        Check.write(x, 0, "d");
        CHECK.due("the same text is worn nowhere, too", x.worn(0, 0), 0);
        CHECK.due("written", x.count(10), 4);
        CHECK.due("depth of the new one", x.tune(0, 7), 0);
        SoundToll y = Check.made("", "<<a>>", "a");
        CHECK.due("depth of the first", y.tune(0, 7), 2);
        CHECK.due("depth of the second", y.tune(1, 7), 0);
    }

    private static void refusedWrites() {
        SoundToll x = Check.made("g00,c09", "ab", "", "", "<c>");
        x.go(0, 1);
        String[] none = {"", "(", "(a", "2", "2[", "2[a", "<", "<a", "^", "a^", "2[a]^", "h", "a]", "<a]", "()", "ab!"};
        for (String text : none) {
            x.blank();
            Check.spell(x, text);
            for (int book : new int[] {-1, 4, Integer.MIN_VALUE, Integer.MAX_VALUE}) {
                CHECK.still(x, "write(" + book + ") of " + text, () -> x.write(book), SoundToll.UNKNOWN);
            }
            for (int book = 0; book < 4; book++) {
                int into = book;
                CHECK.still(x, "write(" + book + ") of " + text, () -> x.write(into), SoundToll.STATE);
            }
        }
        x.blank();
        Check.spell(x, "a");
        CHECK.still(x, "write(4) of a", () -> x.write(4), SoundToll.UNKNOWN);
        CHECK.due("write(1) of a", x.write(1), 1);
    }

    private static void manyBeats() {
        SoundToll x = new SoundToll();
        CHECK.due("60 beats", Check.write(x, 0, "4[3[abcde]]"), 60);
        CHECK.due("beat 59", x.beat(0, 59), 16);
        CHECK.due("beat 60", x.beat(0, 60), SoundToll.UNKNOWN);
        tooMany(x, "4[3[abcde]]f");
        tooMany(x, "4[3[abcde]](fg)");
        tooMany(x, "f4[3[abcde]]");
        tooMany(x, "<f4[3[abcde]]>");
        tooMany(x, "^2[4[4[ab]]]");
        tooMany(x, "4[4[4[a]]]");
        tooMany(x, "<<2[4[4[ab]]]>>");
        tooMany(x, "2[4[4[ab]]]2[<^(ab)>]");
        tooMany(x, "4[".repeat(13) + "a" + "]".repeat(13).substring(0, 13));
        x.blank();
        Check.spell(x, "4[4[4[4[a]]]");
        CHECK.still(x, "write of what is open", () -> x.write(1), SoundToll.STATE);
        CHECK.due("tuneFault", x.tuneFault(), 12);
        CHECK.due("60 beats backwards", Check.write(x, 1, "<4[3[abcde]]>"), 60);
        CHECK.due("beat 0", x.beat(1, 0), 16);
        CHECK.due("60 beats higher", Check.write(x, 2, "^4[3[abcde]]"), 60);
        CHECK.due("beat 0", x.beat(2, 0), 2);
        CHECK.due("beat 59", x.beat(2, 59), 32);
    }

    private static void tooMany(SoundToll x, String text) {
        x.blank();
        Check.spell(x, text);
        CHECK.due("tuneFault of " + text, x.tuneFault(), text.length());
        CHECK.still(x, "write(4) of " + text, () -> x.write(4), SoundToll.UNKNOWN);
        CHECK.still(x, "write(0) of " + text, () -> x.write(0), SoundToll.FULL);
        CHECK.still(x, "write(3) of " + text, () -> x.write(3), SoundToll.FULL);
        CHECK.due("blank", x.blank(), text.length());
    }

    private static void burns() {
        SoundToll x = Check.made("g00,c09", "abc", "d");
        for (int book : new int[] {-1, 4, Integer.MIN_VALUE, Integer.MAX_VALUE}) {
            CHECK.still(x, "burn(" + book + ")", () -> x.burn(book), SoundToll.UNKNOWN);
        }
        CHECK.still(x, "burn(2)", () -> x.burn(2), SoundToll.STATE);
        x.go(0, 0);
        x.go(1, 0);
        Check.spell(x, "ab");
        CHECK.due("burn(0)", x.burn(0), 3);
        CHECK.due("the page stays", x.count(8), 2);
        CHECK.due("book 0", x.tune(0, 0), SoundToll.UNKNOWN);
        CHECK.due("worn in all", x.count(5), 1);
        CHECK.due("passed", x.count(3), 2);
        CHECK.still(x, "burn(0) again", () -> x.burn(0), SoundToll.STATE);
        CHECK.due("book 1", x.tune(1, 0), 1);
        x.write(0);
        CHECK.due("worn nowhere", x.worn(0, 0), 0);
        CHECK.due("written", x.count(10), 3);
    }
}
