/** Promises 27 and 28: image, restore. */
public final class ImageTest {
    private static final Check CHECK = new Check();

    public static void main(String[] args) {
        keepsAll();
        latest();
        refused();
        CHECK.end();
    }

    private static void keepsAll() {
        SoundToll x = Check.made("g02,c05,b04", "ab(cg)", "", "<<ag.g>>");
        x.go(0, 0);
        x.go(2, 1);
        x.go(2, 1);
        x.wind(1, 5);
        x.toll(2, 3);
        x.see(0, 0, true);
        x.see(2, 1, false);
        long before = x.digest();
        CHECK.still(x, "image", x::image, 2);
        Check.write(x, 0, "d");
        Check.write(x, 1, "2[ef]");
        x.burn(2);
        x.go(1, 0);
        x.go(1, 1);
        x.wind(1, 2);
        x.wind(0, 1);
        x.toll(2, 99);
        x.see(1, 2, true);
        x.forget();
        x.see(1, 2, false);
        Check.spell(x, "ab");
        CHECK.due("restore", x.restore(), 2);
        CHECK.due("the page stays", x.blank(), 2);
        CHECK.due("written stays", x.count(10), 4);
        CHECK.due("roads stay", x.count(9), 1);
        CHECK.due("digest", x.digest(), before + 4 - 2);
        CHECK.due("tune 0", x.tune(0, 0), 3);
        CHECK.due("book 1", x.tune(1, 0), SoundToll.UNKNOWN);
        CHECK.due("depth", x.tune(2, 7), 2);
        CHECK.due("beats", x.beat(2, 0), 1);
        CHECK.due("worn", x.worn(0, 0) + x.worn(2, 1), 3);
        CHECK.due("worn in all", x.count(5), 3);
        CHECK.due("passed", x.gate(0, 3) + x.gate(1, 3), 2);
        CHECK.due("owed", x.count(4), 1);
        CHECK.due("wind 0", x.gate(0, 2), 0);
        CHECK.due("wind 1", x.gate(1, 2), 5);
        CHECK.due("toll", x.gate(2, 1), 3);
        CHECK.due("seen", x.count(7), 2);
        CHECK.due("tolls", x.gate(0, 7), 3);
        CHECK.due("tolls", x.gate(1, 6), 2);
        CHECK.due("tolls", x.gate(2, 5), 100);
    }

    private static void latest() {
        SoundToll x = Check.made("g01,c05", "a");
        CHECK.due("image", x.image(), 0);
        x.go(0, 0);
        CHECK.due("image", x.image(), 1);
        x.go(0, 1);
        x.burn(0);
        CHECK.due("restore the latest", x.restore(), 1);
        CHECK.due("worn", x.count(5), 1);
        x.toll(0, 0);
        x.go(0, 0);
        CHECK.due("passed", x.count(3), 2);
        CHECK.due("restore again", x.restore(), 1);
        CHECK.due("toll", x.gate(0, 1), 1);
        CHECK.due("tune", x.tune(0, 0), 1);
        x.go(0, 0);
        CHECK.due("the image does not go on", x.restore(), 1);
        CHECK.due("owed", x.count(4), 0);
    }

    private static void refused() {
        SoundToll x = Check.made("", "a");
        CHECK.still(x, "image, no road", x::image, SoundToll.STATE);
        CHECK.still(x, "restore, none kept", x::restore, SoundToll.STATE);
        Check.lay(x, "g01,c05");
        CHECK.still(x, "restore, none kept", x::restore, SoundToll.STATE);
        x.image();
        x.go(0, 0);
        CHECK.still(x, "no road", x::road, SoundToll.STATE);
        CHECK.due("restore", x.restore(), 0);
        Check.lay(x, "g01,c05");
        CHECK.still(x, "restore behind a road", x::restore, SoundToll.STATE);
        CHECK.due("image", x.image(), 0);
        x.burn(0);
        CHECK.due("restore", x.restore(), 0);
        CHECK.due("tune", x.tune(0, 0), 1);
    }
}
