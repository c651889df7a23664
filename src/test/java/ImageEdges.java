/** What the Terms tell of an IMAGE, and promises 27 and 28: image, restore. */
final class ImageEdges extends Edges {
    private static final String ROAD = "g02,c05,b04";

    ImageEdges(Sentences doc) {
        super(doc);
    }

    @Override
    void hold() {
        term("An IMAGE keeps TUNES,", this::keepsTunes);
        term("TOLLS, WINDS,", this::keepsTollsAndWinds);
        term("how WORN all is, who PASSED, what is owed,", this::keepsWornPassedOwed);
        term("SEEN.", this::keepsSeen);
        promise(27, "An IMAGE is kept (one; the latest)", this::theLatest);
        promise(27, "how many PASSED.", this::imagePassed);
        promise(27, "STATE: no ROAD.", this::imageNoRoad);
        promise(28, "It goes on from the IMAGE: how many PASSED (as it was kept).", this::goesOn);
        promise(28, "STATE: none was kept", this::noneKept);
        promise(28, "or a ROAD was read since (of the same text, too).", this::roadRead);
    }

    /** What is not kept: THE PAGE, how often a ROAD was read and a TUNE was written. */
    private static SoundToll made() {
        SoundToll x = Check.made(ROAD, "ab(cg)", "<<ag.g>>", "", "d");
        x.go(0, 0);
        x.go(1, 1);
        x.go(1, 1);
        x.wind(1, 5);
        x.toll(2, 3);
        x.see(0, 0, true);
        return x;
    }

    /** The change is undone, all of it. */
    private void undone(String change, Scenes.Call made) {
        SoundToll x = made();
        x.image();
        long before = x.digest();
        made.on(x);
        due(change + " changes the digest", x.digest() == before ? 1 : 0, 0);
        due("restore() behind " + change, x.restore(), 2);
        due("digest() behind " + change, x.digest(), before);
    }

    /** As undone, of a change by which so many TUNES are written, which is not undone. */
    private void undoneButWritten(String change, Scenes.Call made, int written) {
        SoundToll x = made();
        x.image();
        long before = x.digest();
        made.on(x);
        due("restore() behind " + change, x.restore(), 2);
        due("digest() behind " + change, x.digest(), before + written);
        due("count(10) behind " + change, x.count(10), 3 + written);
    }

    private void keepsTunes() {
        undone("burn(0)", x -> x.burn(0));
        undone("burn(3)", x -> x.burn(3));
        undone("burning all", x -> x.burn(0) + x.burn(1) + x.burn(3));
        undoneButWritten("another tune", x -> Check.write(x, 0, "g"), 1);
        undoneButWritten("a longer tune", x -> Check.write(x, 1, "4[3[abcde]]"), 1);
        undoneButWritten("a tune in an empty book", x -> Check.write(x, 2, "2[a]"), 1);
        undoneButWritten("other tunes all over", x -> {
            for (int book = 0; book < 4; book++) {
                Check.write(x, book, "<" + "abcd".charAt(book) + ">");
            }
            return 0;
        }, 4);
        SoundToll empty = Check.made("g00,g00");
        empty.image();
        Check.write(empty, 0, "a");
        empty.restore();
        due("the book is empty again", empty.tune(0, 0), UNKNOWN);
        due("burn(0)", empty.burn(0), STATE);
    }

    private void keepsTollsAndWinds() {
        undone("toll(0, 99)", x -> x.toll(0, 99));
        undone("toll(2, 0)", x -> x.toll(2, 0));
        undone("wind(1, 0)", x -> x.wind(1, 0));
        undone("wind(2, 6)", x -> x.wind(2, 6));
        SoundToll x = made();
        x.image();
        x.toll(2, 50);
        x.wind(1, 1);
        x.wind(0, 6);
        x.restore();
        due("gate(2, 1)", x.gate(2, 1), 3);
        due("gate(1, 2)", x.gate(1, 2), 5);
        due("gate(0, 2)", x.gate(0, 2), 0);
    }

    private void keepsWornPassedOwed() {
        undone("go(0, 0)", x -> x.go(0, 0));
        undone("go(3, 2)", x -> x.go(3, 2));
        undone("go(1, 1) again and again", x -> {
            for (int time = 3; time <= 99; time++) {
                x.go(1, 1);
            }
            return x.worn(1, 1);
        });
        SoundToll x = made();
        x.image();
        x.go(0, 0);
        x.go(3, 0);
        x.go(3, 1);
        due("passed ahead of it", x.count(3), 3);
        due("owed ahead of it", x.count(4), 4);
        x.restore();
        int[] passed = {1, 1, 0};
        int[] owed = {0, 1, 0};
        for (int gate = 0; gate < 3; gate++) {
            due("passed at " + gate, x.gate(gate, 3), passed[gate]);
            due("owed at " + gate, x.gate(gate, 4), owed[gate]);
        }
        due("worn(0, 0)", x.worn(0, 0), 1);
        due("worn(1, 1)", x.worn(1, 1), 2);
        due("worn(3, 0)", x.worn(3, 0), 0);
    }

    private void keepsSeen() {
        undone("see(1, 0, false)", x -> x.see(1, 0, false));
        undone("forget()", SoundToll::forget);
        undone("forget() and see", x -> x.forget() + x.see(3, 1, true));
        undone("forget() and see that another one did not", x -> x.forget() + x.see(1, 2, false));
        undone("forget() and see that less passed there", x -> x.forget() + x.see(3, 0, true));
        undone("forget() and see that he did not", x -> x.forget() + x.see(0, 0, false));
        SoundToll x = made();
        for (int seen = 2; seen <= 8; seen++) {
            x.see(3, 2, false);
        }
        x.image();
        x.forget();
        due("see behind forget()", x.see(3, 1, true), 1);
        x.restore();
        due("seen", x.count(7), 8);
        due("see a ninth", x.see(3, 1, true), FULL);
        due("greatest", x.gate(0, 7), 3);
        due("tolls elsewhere", x.gate(1, 5), 100);
        due("least", x.gate(2, 6), 2);
        due("forget()", x.forget(), 8);
    }

    private void theLatest() {
        SoundToll x = made();
        due("image()", x.image(), 2);
        x.toll(0, 10);
        due("image() again", x.image(), 2);
        x.toll(0, 20);
        due("restore()", x.restore(), 2);
        due("toll of the latest", x.gate(0, 1), 10);
        x.toll(0, 30);
        x.go(0, 2);
        due("image() behind restore()", x.image(), 3);
        x.toll(0, 40);
        due("restore() again", x.restore(), 3);
        due("toll of the latest", x.gate(0, 1), 30);
        due("restore() of the same", x.restore(), 3);
    }

    private void imagePassed() {
        SoundToll x = Check.made("g01,g01", "a", "b");
        due("image() where nobody passed", x.image(), 0);
        x.go(0, 0);
        due("image() where one did", x.image(), 1);
        x.go(0, 0);
        due("image() where one owes", x.image(), 1);
        x.go(0, 1);
        x.go(1, 0);
        due("image() where three passed", x.image(), 3);
        long before = x.digest();
        x.image();
        due("digest()", x.digest(), before);
    }

    private void imageNoRoad() {
        still(SoundToll::new, "image()", SoundToll::image, STATE);
        still(Scenes::roadless, "image()", SoundToll::image, STATE);
        SoundToll x = Scenes.roadless();
        x.image();
        Check.lay(x, ROAD);
        due("restore() behind it", x.restore(), STATE);
        due("image() on a road", x.image(), 0);
    }

    private void goesOn() {
        SoundToll x = made();
        x.image();
        x.go(0, 2);
        x.go(1, 2);
        due("passed ahead of it", x.count(3), 4);
        Check.spell(x, "g0");
        due("restore()", x.restore(), 2);
        due("passed behind it", x.count(3), 2);
        due("the page stays", x.blank(), 2);
        due("count(9)", x.count(9), 1);
        due("go(0, 2)", x.go(0, 2), 10);
        due("passed", x.count(3), 3);
        due("the image does not go on", x.restore(), 2);
        due("worn(0, 2)", x.worn(0, 2), 0);
        SoundToll none = Check.made(ROAD, "a");
        none.image();
        none.go(0, 0);
        none.toll(1, 3);
        none.go(0, 1);
        due("passed ahead of it", none.count(3), 1);
        due("restore() of none", none.restore(), 0);
        due("passed behind it", none.count(3), 0);
        due("owed behind it", none.count(4), 0);
    }

    private void noneKept() {
        still(SoundToll::new, "restore()", SoundToll::restore, STATE);
        still(Scenes::roadless, "restore()", SoundToll::restore, STATE);
        still(ImageEdges::made, "restore()", SoundToll::restore, STATE);
        SoundToll x = made();
        x.image();
        due("restore() of an image", x.restore(), 2);
    }

    private static SoundToll laidSince(String road) {
        SoundToll x = made();
        x.image();
        Check.lay(x, road);
        return x;
    }

    private void roadRead() {
        still(() -> laidSince("g00,g01"), "restore() behind another road", SoundToll::restore, STATE);
        still(() -> laidSince(ROAD), "restore() behind the same one", SoundToll::restore, STATE);
        due("restore() behind a text that is none", laidSince("g00").restore(), 2);
        due("restore() behind no text", laidSince("").restore(), 2);
        SoundToll x = laidSince(ROAD);
        due("image() there", x.image(), 0);
        due("restore() of it", x.restore(), 0);
        due("worn(0, 0)", x.worn(0, 0), 0);
        SoundToll y = made();
        y.image();
        y.restore();
        Check.lay(y, ROAD);
        due("restore() behind a restore() and a road", y.restore(), STATE);
    }
}
