/** Promises 7 and 8: write, burn. */
final class BookEdges extends Edges {
    private static final String SIXTY = "4[3[abcde]]";

    BookEdges(Sentences doc) {
        super(doc);
    }

    @Override
    void hold() {
        promise(7, "THE PAGE is read as the TUNE of a BOOK", this::readAsTune);
        promise(7, "(another one is gone; it is WORN nowhere then)", this::anotherIsGone);
        promise(7, "how many BEATS", this::howManyBeats);
        promise(7, "THE PAGE is empty then.", this::pageIsEmpty);
        promise(7, "UNKNOWN: book (0 to 3)", this::noSuchBook);
        promise(7, "STATE: it is none", this::noTune);
        promise(7, "FULL: it has more than 60 BEATS.", this::tooManyBeats);
        promise(8, "A BOOK is empty (its TUNE is WORN nowhere then)", this::burnt);
        promise(8, "how many BEATS its TUNE had.", this::beatsItHad);
        promise(8, "UNKNOWN: book", this::burnNoSuchBook);
        promise(8, "STATE: it is empty.", this::burnEmpty);
    }

    private void readAsTune() {
        for (int book = 0; book < 4; book++) {
            SoundToll x = new SoundToll();
            due("write(" + book + ")", Check.write(x, book, "a(bg)."), 3);
            for (int other = 0; other < 4; other++) {
                due("beat(" + other + ", 1)", x.beat(other, 1), other == book ? 66 : UNKNOWN);
            }
            due("count(1)", x.count(1), 1);
            due("count(10)", x.count(10), 1);
        }
    }

    private void anotherIsGone() {
        SoundToll x = Scenes.busy("<d>");
        due("worn ahead of it", x.worn(0, 0) + x.worn(0, 2), 2);
        due("write(0)", x.write(0), 1);
        for (int gate = 0; gate < 3; gate++) {
            due("worn(0, " + gate + ")", x.worn(0, gate), 0);
        }
        due("the other tunes are worn", x.worn(1, 1), 2);
        due("tune(0, 0)", x.tune(0, 0), 1);
        due("tune(0, 7)", x.tune(0, 7), 1);
        due("beat(0, 0)", x.beat(0, 0), 8);
        due("the second beat is gone", x.beat(0, 1), UNKNOWN);
        due("passed stays", x.count(3), 4);
        due("owed stays", x.count(4), 1);
        due("seen stays", x.count(7), 3);
        x.go(0, 1);
        due("the same text", Check.write(x, 0, "<d>"), 1);
        due("is worn nowhere, too", x.worn(0, 1), 0);
        due("books", x.count(1), 3);
    }

    private void howManyBeats() {
        SoundToll x = new SoundToll();
        due("write of one", Check.write(x, 0, "."), 1);
        due("write of two", Check.write(x, 0, "a."), 2);
        due("write of 59", Check.write(x, 0, "4[2[abcdefg]]abc"), 59);
        due("write of 60", Check.write(x, 0, SIXTY), 60);
        due("beat 59", x.beat(0, 59), 16);
        due("beat 60", x.beat(0, 60), UNKNOWN);
    }

    private void pageIsEmpty() {
        SoundToll x = Scenes.busy("ab");
        x.write(2);
        due("count(8)", x.count(8), 0);
        due("tuneFault()", x.tuneFault(), 0);
        due("write() again", x.write(2), STATE);
        due("blank()", x.blank(), 0);
        due("letter('a')", x.letter('a'), 1);
    }

    private void noSuchBook() {
        for (int book : new int[] {0, 3}) {
            due("write(" + book + ")", Scenes.busy("ab").write(book), 2);
        }
        for (String page : new String[] {"a", "", "2[a", SIXTY + "a"}) {
            refuses(() -> Scenes.busy(page), "write of " + page, SoundToll::write, UNKNOWN, NO_BOOK);
        }
    }

    private void noTune() {
        String[] none = {"", "(", "(a", "2", "2[", "2[a", "<", "<a", "^", "a^", "h", "a]", "<a]", "()", SIXTY + "2[a",
            SIXTY + "a^", SIXTY + "<a", SIXTY + "(a", "4[4[4[4[a]]]", SIXTY + "a)"};
        for (String page : none) {
            refuses(() -> Scenes.busy(page), "write of " + page, SoundToll::write, STATE, 0, 1, 2, 3);
            leavesNothing(page, STATE);
        }
        leavesNothing("^^", STATE);
        leavesNothing("2[<^", STATE);
        leavesNothing("<a^^", STATE);
    }

    /** What a text that is refused has open, or has many of, is not there for the next one. */
    private void leavesNothing(String page, int refusal) {
        SoundToll x = Scenes.busy(page);
        due("write(2) of " + page, x.write(2), refusal);
        due("write(2) of a(b). behind " + page, Check.write(x, 2, "a(b)."), 3);
        due("its beat 0", x.beat(2, 0), 1);
        due("its beat 1", x.beat(2, 1), 2);
        due("its beat 2", x.beat(2, 2), 0);
        due("its depth", x.tune(2, 7), 0);
        Check.write(x, 2, page);
        due("write(2) of <a> behind " + page, Check.write(x, 2, "<a>"), 1);
        due("its depth", x.tune(2, 7), 1);
    }

    private void tooManyBeats() {
        due("write of 60", Scenes.busy(SIXTY).write(0), 60);
        due("write of 60 higher and backwards", Scenes.busy("^<" + SIXTY + ">").write(0), 60);
        String[] many = {SIXTY + "a", SIXTY + ".", SIXTY + "(abc)", "." + SIXTY, "<" + SIXTY + "^a>", "4[4[4[a]]]",
            "4[".repeat(13) + "a" + "]".repeat(13)};
        for (String page : many) {
            refuses(() -> Scenes.busy(page), "write of " + page, SoundToll::write, FULL, 0, 1, 2, 3);
            leavesNothing(page, FULL);
        }
    }

    private void burnt() {
        SoundToll x = Scenes.busy();
        due("worn ahead of it", x.count(5), 5);
        due("burn(0)", x.burn(0), 3);
        due("worn behind it", x.count(5), 3);
        due("tune(0, 0)", x.tune(0, 0), UNKNOWN);
        due("beat(0, 0)", x.beat(0, 0), UNKNOWN);
        due("books", x.count(1), 2);
        due("the page stays", x.count(8), 2);
        due("passed stays", x.count(3), 4);
        due("seen stays", x.count(7), 3);
        due("write(0)", Check.write(x, 0, "ab(cg)"), 3);
        due("worn(0, 0)", x.worn(0, 0), 0);
        due("worn(0, 2)", x.worn(0, 2), 0);
    }

    private void beatsItHad() {
        String[] tunes = {".", "ab", "4[2[abcdefg]]abc", SIXTY};
        int[] beats = {1, 2, 59, 60};
        for (int row = 0; row < tunes.length; row++) {
            due("burn(3) of " + tunes[row], Check.made("", "", "", "", tunes[row]).burn(3), beats[row]);
        }
    }

    private void burnNoSuchBook() {
        refuses(Scenes::busy, "burn", SoundToll::burn, UNKNOWN, NO_BOOK);
        refuses(SoundToll::new, "burn where all are empty", SoundToll::burn, UNKNOWN, NO_BOOK);
        due("burn(0)", Scenes.busy().burn(0), 3);
        due("burn(3)", Scenes.busy().burn(3), 2);
    }

    private void burnEmpty() {
        refuses(Scenes::busy, "burn", SoundToll::burn, STATE, Scenes.EMPTY_BOOK);
        refuses(SoundToll::new, "burn", SoundToll::burn, STATE, 0, 1, 2, 3);
        SoundToll x = Scenes.busy();
        due("burn(1)", x.burn(1), 4);
        due("burn(1) again", x.burn(1), STATE);
    }
}
