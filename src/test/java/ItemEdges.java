import java.util.ArrayList;
import java.util.Collections;
import java.util.List;

/** What the Terms tell of BEATS, TUNES and ITEMS: texts at the edge of what is read, and just beyond. */
final class ItemEdges extends Edges {
    ItemEdges(Sentences doc) {
        super(doc);
    }

    @Override
    void hold() {
        section("What it is", "There are seven NOTES, a to g (0 to 6).", this::sevenNotes);
        term("A BEAT is some NOTES at once, as bits; 0 is a REST.", this::beatsAsBits);
        term("A TUNE is a text of one ITEM, or more, one right behind the other.", this::itemsBehindOneAnother);
        term("An ITEM is a NOTE, a letter \"a\" to \"g\"", this::noteLetters);
        term("or \".\" (a REST)", this::rests);
        term("or \"(\", one NOTE or more (one again, too: it is there once), \")\": one BEAT of all these",
                this::chords);
        term("or a digit (2 to 4), \"[\", a TUNE, \"]\": that as often", this::repeats);
        term("or \"<\", a TUNE, \">\": its BEATS the other way about, the last one first", this::backwards);
        term("or \"^\" and an ITEM: all its NOTES by one higher (a above g).", this::higherByOne);
        term("It may have 60 BEATS at most.", this::sixtyBeats);
        term("There are four BOOKS (0 to 3) for a TUNE each", this::fourBooks);
        term("at first all are empty.", this::emptyAtFirst);
    }

    /** The text is a TUNE of these BEATS and no more. */
    private void reads(String tune, int... beats) {
        List<Integer> want = new ArrayList<>();
        for (int beat : beats) {
            want.add(beat);
        }
        reads(tune, want);
    }

    private void reads(String tune, List<Integer> beats) {
        SoundToll x = Scenes.spelt(tune);
        due("tuneFault() of " + tune, x.tuneFault(), tune.length());
        due("write(0) of " + tune, x.write(0), beats.size());
        for (int beat = 0; beat < beats.size(); beat++) {
            due("beat(0, " + beat + ") of " + tune, x.beat(0, beat), beats.get(beat));
        }
        due("beat behind the last one of " + tune, x.beat(0, beats.size()), UNKNOWN);
    }

    /** The text is no TUNE, whatever is ahead of its fault. */
    private void noTune(String text) {
        still(() -> Scenes.busy(text), "write(0) of " + text, x -> x.write(0), STATE);
        still(() -> Scenes.busy(text), "write(2) of " + text, x -> x.write(2), STATE);
    }

    private void sevenNotes() {
        for (int note = 0; note < 7; note++) {
            SoundToll x = Check.made("", "" + (char) ('a' + note));
            due("the highest note of " + (char) ('a' + note), x.tune(0, 4), note);
        }
        noTune("h");
        noTune("`");
    }

    private void beatsAsBits() {
        reads(".", 0);
        reads("a", 1);
        reads("g", 64);
        reads("(ag)", 65);
        reads("(abcdefg)", 127);
        due("a rest", Check.made("", ".").tune(0, 2), 1);
        due("a beat of one note is none", Check.made("", "a").tune(0, 2), 0);
    }

    private void itemsBehindOneAnother() {
        noTune("");
        reads("a", 1);
        reads("ab", 1, 2);
        reads(".(ab)2[c]<d>^e", 0, 3, 4, 4, 8, 32);
        reads("a".repeat(40), Collections.nCopies(40, 1));
        for (String between : new String[] {" ", ",", "-", "|"}) {
            noTune("a" + between + "b");
            noTune(between + "a");
            noTune("a" + between);
        }
    }

    private void noteLetters() {
        reads("a", 1);
        reads("b", 2);
        reads("f", 32);
        reads("g", 64);
        for (String beyond : new String[] {"`", "h", "A", "G", "@", "H", "0"}) {
            noTune(beyond);
        }
    }

    private void rests() {
        reads(".", 0);
        reads("..", 0, 0);
        reads("a.", 1, 0);
        reads(".a", 0, 1);
        noTune("-");
        noTune("/");
    }

    private void chords() {
        noTune("()");
        reads("(a)", 1);
        reads("(g)", 64);
        reads("(ab)", 3);
        reads("(ba)", 3);
        reads("(aa)", 1);
        reads("(gabgb)", 67);
        reads("(" + "abcdefg".repeat(5) + "abc)", 127);
        reads("(" + "a".repeat(38) + ")", 1);
        reads("(a)(b)", 1, 2);
        for (String none : new String[] {"(", "(a", ")", "a)", "(a))", "((a))", "(.)", "(a.)", "(h)", "(`)", "(^a)",
            "(a^b)", "(2[a])", "(<a>)", "(a,b)"}) {
            noTune(none);
        }
    }

    private void repeats() {
        noTune("0[a]");
        noTune("1[a]");
        reads("2[a]", 1, 1);
        reads("3[ab]", 1, 2, 1, 2, 1, 2);
        reads("4[a]", 1, 1, 1, 1);
        noTune("5[a]");
        noTune("9[a]");
        noTune("2[]");
        reads("2[2[a]b]", 1, 1, 2, 1, 1, 2);
        reads("c2[a]b", 4, 1, 1, 2);
        for (String none : new String[] {"2", "2a", "2[", "2[a", "[a]", "a]", "2[a]]", "2[a>", "2(a)", "2(a]", "22[a]",
            "2^[a]", "2<a>", "2[<a]>"}) {
            noTune(none);
        }
    }

    private void backwards() {
        noTune("<>");
        reads("<a>", 1);
        reads("<ab>", 2, 1);
        reads("<abc>", 4, 2, 1);
        reads("<<abc>>", 1, 2, 4);
        reads("<<ab>c>", 4, 1, 2);
        reads("c<ab>d", 4, 2, 1, 8);
        reads("<2[ab].>", 0, 2, 1, 2, 1);
        for (String none : new String[] {"<", "<a", ">", "a>", "<a>>", "<a]", "<<a>", "<2[a>]"}) {
            noTune(none);
        }
    }

    private void higherByOne() {
        noTune("^");
        noTune("a^");
        noTune("<a^>");
        noTune("2[^]");
        reads("^a", 2);
        reads("^f", 64);
        reads("^g", 1);
        reads("^(fg)", 65);
        reads("^(abcdefg)", 127);
        reads("^.", 0);
        reads("^gg", 1, 64);
        reads("g^g", 64, 1);
        reads("^^f", 1);
        reads("^^^^^^a", 64);
        reads("^^^^^^^a", 1);
        reads("^^^^^^^^a", 2);
        reads("^".repeat(39) + "a", 16);
        reads("^2[fg]f", 64, 1, 64, 1, 32);
        reads("^<fg>f", 1, 64, 32);
        reads("^<f^g>", 2, 64);
        reads("a^2[b]", 1, 4, 4);
        reads("a^<bc>d", 1, 8, 4, 8);
        reads("<<a>>^<b>", 1, 4);
        reads("2[2[a]]^2[b]^c", 1, 1, 1, 1, 4, 4, 8);
        reads("^<<a>b>c", 4, 2, 4);
        reads("<^<a>b>c", 2, 2, 4);
        reads("^^2[^eg]", 1, 2, 1, 2);
    }

    private void sixtyBeats() {
        String most = "4[2[abcdefg]]";
        reads(most + "ab.", beatsOf(8, 1, 2, 0));
        reads(most + "ab.d", beatsOf(8, 1, 2, 0, 8));
        tooMany(most + "ab.de");
        reads(most + "ab.(de)", beatsOf(8, 1, 2, 0, 24));
        tooMany(most + "ab.d(de)");
        tooMany(most + "2[ab]<d>");
        tooMany("a" + most + "ab.d");
        reads("4[3[....d]]", repeated(12, 0, 0, 0, 0, 8));
        reads("<4[3[....d]]>", repeated(12, 8, 0, 0, 0, 0));
        reads("^4[3[....g]]", repeated(12, 0, 0, 0, 0, 1));
        tooMany("4[3[....d]].");
        tooMany("<4[3[....d]].>");
        tooMany("4[4[4[.]]]");
        tooMany("4[".repeat(13) + "a" + "]".repeat(13));
    }

    private static List<Integer> repeated(int times, Integer... beats) {
        List<Integer> all = new ArrayList<>();
        for (int time = 0; time < times; time++) {
            Collections.addAll(all, beats);
        }
        return all;
    }

    /** So often all seven NOTES, one BEAT each, and some BEATS behind them. */
    private static List<Integer> beatsOf(int times, Integer... behind) {
        List<Integer> all = repeated(times, 1, 2, 4, 8, 16, 32, 64);
        Collections.addAll(all, behind);
        return all;
    }

    private void tooMany(String text) {
        still(() -> Scenes.busy(text), "write(0) of " + text, x -> x.write(0), FULL);
    }

    private void fourBooks() {
        SoundToll x = new SoundToll();
        String notes = "abcd";
        for (int book = 0; book < 4; book++) {
            due("write(" + book + ")", Check.write(x, book, notes.substring(book, book + 1)), 1);
        }
        for (int book = 0; book < 4; book++) {
            due("beat(" + book + ", 0)", x.beat(book, 0), 1 << book);
        }
        refuses(() -> Scenes.busy("a"), "write", SoundToll::write, UNKNOWN, NO_BOOK);
    }

    private void emptyAtFirst() {
        for (int book = 0; book < 4; book++) {
            int asked = book;
            still(SoundToll::new, "tune(" + book + ", 0)", x -> x.tune(asked, 0), UNKNOWN);
            still(SoundToll::new, "burn(" + book + ")", x -> x.burn(asked), STATE);
        }
        still(SoundToll::new, "count(1)", x -> x.count(1), 0);
        still(SoundToll::new, "count(2)", x -> x.count(2), 0);
    }
}
