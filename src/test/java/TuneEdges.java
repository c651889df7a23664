/** What the Terms tell of PERIOD and MIRROR, and promises 9 and 10: tune, beat. */
final class TuneEdges extends Edges {
    private static final String ALL = "(abcdefg)";
    /** 60 BEATS of all seven NOTES. */
    private static final String LOUDEST = "4[3[2[2[" + ALL + "]]]]3[4[" + ALL + "]]";

    TuneEdges(Sentences doc) {
        super(doc);
    }

    @Override
    void hold() {
        term("PERIOD of a TUNE: by how many BEATS (1 at least) farther on it is the same as long as there are any: "
                + "the least.", this::periods);
        term("It is a MIRROR, if it is the same backwards.", this::mirrors);
        promise(9, "Of a TUNE: what = 0 how many BEATS", this::howManyBeats);
        promise(9, "1 NOTES of all BEATS", this::notes);
        promise(9, "2 RESTS", this::rests);
        promise(9, "3 BEATS of two NOTES or more", this::twoNotesOrMore);
        promise(9, "4 the highest NOTE (NONE: none but RESTS)", this::highestNote);
        promise(9, "5 PERIOD", this::period);
        promise(9, "6 whether it is a MIRROR (1, 0)", this::mirror);
        promise(9, "7 how deep it is (\"[\" and \"<\" that are open at once, at most)", this::depth);
        promise(9, "8 at how many GATES it PASSES now.", this::passesNow);
        promise(9, "UNKNOWN: book (also if it is empty)", this::unknownBook);
        promise(9, "OUTSIDE.", this::outside);
        promise(10, "A BEAT of a TUNE, as bits of NOTES.", this::beats);
        promise(10, "UNKNOWN: book (also if it is empty)", this::beatOfNoBook);
        promise(10, "beat.", this::noSuchBeat);
    }

    private void told(int what, String tune, int want) {
        still(() -> Check.made("", "", tune), "tune(1, " + what + ") of " + tune, x -> x.tune(1, what), want);
    }

    private void periods() {
        told(5, "a", 1);
        told(5, ".", 1);
        told(5, "aa", 1);
        told(5, "ab", 2);
        told(5, "aba", 2);
        told(5, "abab", 2);
        told(5, "ababb", 5);
        told(5, "abcab", 3);
        told(5, "abcabc", 3);
        told(5, "abca", 3);
        told(5, "abcd", 4);
        told(5, "aab", 3);
        told(5, "aaba", 3);
        told(5, "aabaab", 3);
        told(5, "abaaba", 3);
        told(5, "(ab)(ba)", 1);
        told(5, "a(ab)a", 2);
        told(5, "4[3[aaaaa]]", 1);
        told(5, "4[4[aaa]]aaaaaaaaaaab", 60);
        told(5, "b4[4[aaa]]aaaaaaaaaaa", 60);
        told(5, "b4[4[aaa]]aaaaaaaaaab", 59);
        told(5, "2[<a2[bcdefg]2[gfedcb].bc>]", 28);
    }

    private void mirrors() {
        told(6, "a", 1);
        told(6, "aa", 1);
        told(6, "ab", 0);
        told(6, "aba", 1);
        told(6, "abb", 0);
        told(6, "abba", 1);
        told(6, "abab", 0);
        told(6, "abca", 0);
        told(6, "a.a", 1);
        told(6, ".a", 0);
        told(6, "(ab)c(ba)", 1);
        told(6, "(ab)c(bc)", 0);
        told(6, "4[3[aaaaa]]", 1);
        told(6, "4[4[aaa]]aaaaaaaaaaab", 0);
        told(6, "b4[4[aaa]]aaaaaaaaaab", 1);
        told(6, "2[<abcd>^c.]", 0);
    }

    private void howManyBeats() {
        told(0, ".", 1);
        told(0, "a", 1);
        told(0, "(abc)", 1);
        told(0, "ab", 2);
        told(0, "4[2[abcdefg]]abc", 59);
        told(0, "4[3[abcde]]", 60);
    }

    private void notes() {
        told(1, ".", 0);
        told(1, "4[.]", 0);
        told(1, "a", 1);
        told(1, "g", 1);
        told(1, "(aa)", 1);
        told(1, "(ag).", 2);
        told(1, ALL, 7);
        told(1, ".a(bc)2[d(efg)]", 11);
        told(1, LOUDEST, 420);
    }

    private void rests() {
        told(2, "a", 0);
        told(2, ".", 1);
        told(2, "(ab).(c).", 2);
        told(2, "4[3[.....]]", 60);
        told(2, LOUDEST, 0);
    }

    private void twoNotesOrMore() {
        told(3, ".", 0);
        told(3, "a", 0);
        told(3, "(a)", 0);
        told(3, "(aaa)", 0);
        told(3, "(ab)", 1);
        told(3, "(abc)", 1);
        told(3, ALL + "a(fg).", 2);
        told(3, LOUDEST, 60);
    }

    private void highestNote() {
        told(4, ".", NONE);
        told(4, "4[3[.....]]", NONE);
        told(4, "a", 0);
        told(4, ".a.", 0);
        told(4, "f", 5);
        told(4, "g", 6);
        told(4, "^g", 0);
        told(4, "gaa", 6);
        told(4, "(ab)(cd).(ae)(bc)", 4);
        told(4, ALL, 6);
    }

    private void period() {
        told(5, "a", 1);
        told(5, "ab", 2);
        told(5, "4[3[.....]]", 1);
        told(5, "4[4[...]]...........a", 60);
        told(5, "2[ab]a", 2);
    }

    private void mirror() {
        told(6, "a", 1);
        told(6, "ab", 0);
        told(6, "ab<ab>", 1);
        told(6, "ab.<ab>", 1);
        told(6, "ab.<ac>", 0);
    }

    private void depth() {
        told(7, "a", 0);
        told(7, "(ab)^^c.", 0);
        told(7, "<a>", 1);
        told(7, "2[a]", 1);
        told(7, "2[a]<b>3[c]", 1);
        told(7, "2[<a>]", 2);
        told(7, "<2[a]>", 2);
        told(7, "<<a>>b", 2);
        told(7, "<<a>>2[b]", 2);
        told(7, "3[<<a>>]2[b]c", 3);
        told(7, "a<b2[c]<d>>", 2);
        told(7, "<<a>2[b<c>]>", 3);
        told(7, "2[2[2[2[a]]]]", 4);
        told(7, "^<^<^a>>", 2);
        told(7, "<".repeat(19) + "a" + ">".repeat(19), 19);
        told(7, "<".repeat(19) + "ab" + ">".repeat(19), 19);
    }

    private void passes(SoundToll x, String when, int want) {
        due("tune(0, 8) " + when, x.tune(0, 8), want);
    }

    private void passesNow() {
        told(8, "a", 0);
        SoundToll x = Check.made("g03,g03,g03,g03", "abc", ".");
        passes(x, "at a toll that it pays", 4);
        due("tune(1, 8)", x.tune(1, 8), 0);
        x.toll(3, 4);
        passes(x, "at a toll of one more", 3);
        x.toll(3, 2);
        passes(x, "at a toll of one less", 4);
        x.go(0, 0);
        passes(x, "worn", 3);
        x.go(0, 3);
        passes(x, "worn at a toll of one less", 3);
        SoundToll y = Check.made("c03,c03", "c");
        passes(y, "in no wind", 2);
        y.wind(0, 1);
        passes(y, "in a wind", 1);
        y.wind(1, 4);
        passes(y, "in winds", 0);
        y.wind(1, 5);
        passes(y, "in a wind that makes it a", 1);
    }

    private void unknownBook() {
        for (int what : new int[] {0, 8, -1, 9}) {
            refusesNoBook("tune(.., " + what + ")", (x, book) -> x.tune(book, what));
            refuses(SoundToll::new, "tune(.., " + what + ")", (x, book) -> x.tune(book, what), UNKNOWN, 0, 1, 2, 3);
        }
        still(Scenes::busy, "tune(0, 0)", x -> x.tune(0, 0), 3);
        still(Scenes::busy, "tune(3, 0)", x -> x.tune(3, 0), 2);
    }

    private void outside() {
        refuses(Scenes::busy, "tune(0, ..)", (x, what) -> x.tune(0, what), OUTSIDE, beyond(0, 8));
        refuses(Scenes::roadless, "tune(3, ..)", (x, what) -> x.tune(3, what), OUTSIDE, beyond(0, 8));
        still(Scenes::busy, "tune(1, 0)", x -> x.tune(1, 0), 4);
        still(Scenes::busy, "tune(1, 8)", x -> x.tune(1, 8), 2);
    }

    private void beats() {
        SoundToll x = Check.made("", ".ag", "", "", "(ag)" + ALL + "^(ag)");
        int[] first = {0, 1, 64};
        int[] last = {65, 127, 3};
        for (int beat = 0; beat < 3; beat++) {
            due("beat(0, " + beat + ")", x.beat(0, beat), first[beat]);
            due("beat(3, " + beat + ")", x.beat(3, beat), last[beat]);
        }
    }

    private void beatOfNoBook() {
        for (int beat : new int[] {0, -1, 60}) {
            refusesNoBook("beat(.., " + beat + ")", (x, book) -> x.beat(book, beat));
        }
        still(Scenes::busy, "beat(0, 0)", x -> x.beat(0, 0), 1);
        still(Scenes::busy, "beat(3, 0)", x -> x.beat(3, 0), 8);
    }

    private void noSuchBeat() {
        refuses(Scenes::busy, "beat(0, ..)", (x, beat) -> x.beat(0, beat), UNKNOWN, beyond(0, 2));
        still(Scenes::busy, "beat(0, 2)", x -> x.beat(0, 2), 68);
        Scenes.Scene longest = () -> Check.made("", "4[3[abcde]]");
        refuses(longest, "beat(0, ..)", (x, beat) -> x.beat(0, beat), UNKNOWN, beyond(0, 59));
        still(longest, "beat(0, 59)", x -> x.beat(0, 59), 16);
        Scenes.Scene one = () -> Check.made("", "a");
        refuses(one, "beat(0, ..)", (x, beat) -> x.beat(0, beat), UNKNOWN, beyond(0, 0));
        SoundToll x = longest.made();
        Check.write(x, 0, "ab");
        due("beat(0, 1) of a shorter tune", x.beat(0, 1), 2);
        due("beat(0, 2) of a shorter tune", x.beat(0, 2), UNKNOWN);
    }
}
