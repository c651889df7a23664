/** What the Terms tell of SHORT, HIGHER and SEND, and promises 21 to 23. */
final class WouldBeEdges extends Edges {
    private static final int[] SEND_ASKED = {0, 1, 10, 11, 12, 13};

    WouldBeEdges(Sentences doc) {
        super(doc);
    }

    @Override
    void hold() {
        term("SHORT for a TUNE and a GATE: with how few BEATS, from the first one on, it would PASS (0: with none): "
                + "the fewest; none.", this::fewestBeats);
        term("HIGHER: by how many NOTES (0 to 6) to sing a TUNE higher, so that it PASSES at most GATES: the least;",
                this::leastHigher);
        term("at how many.", this::atHowMany);
        term("SEND: which TUNES (of BOOKS that are not empty) to which GATES, one each at most", this::oneEachAtMost);
        term("so that most are sent, all of whom PASS", this::mostAreSent);
        term("of these with least CHANGE;", this::leastChange);
        term("of like ones the first by numbers (the GATE of BOOK 0, none ahead of all; then BOOK 1, and so on).",
                this::firstByNumbers);
        promise(21, "SHORT; NONE.", this::shortOrNone);
        promise(21, "UNKNOWN: book (also if it is empty), gate.", this::shortUnknown);
        promise(22, "HIGHER: what = 0 by how many, 1 at how many.", this::higherTold);
        promise(22, "UNKNOWN: book (also if it is empty)", this::higherUnknown);
        promise(22, "OUTSIDE", this::higherOutside);
        promise(22, "STATE: no ROAD.", this::higherNoRoad);
        promise(23, "SEND: what = 0 how many PASS, 1 CHANGE, 10 to 13 the GATE of BOOK 0 to 3 (NONE).", this::sendTold);
        promise(23, "OUTSIDE", this::sendOutside);
        promise(23, "STATE: no ROAD.", this::sendNoRoad);
    }

    private void shortest(String gate, String tune, int want) {
        still(() -> Check.made("g00," + gate, tune), "shortest(0, 1) of " + tune + " at " + gate,
                x -> x.shortest(0, 1), want);
    }

    private void fewestBeats() {
        String tune = "a.(bcd)f";
        int[] want = {0, 1, 3, 3, 3, 4, NONE};
        for (int toll = 0; toll < want.length; toll++) {
            shortest("g0" + toll, tune, want[toll]);
        }
        shortest("g00", ".", 0);
        shortest("g01", ".", NONE);
        shortest("c03", "da", 2);
        shortest("c03", "ad", 1);
        shortest("d02", ".aa", 3);
        shortest("d02", ".a", NONE);
        shortest("s07", "a..g", 4);
        shortest("s08", "a..g", NONE);
        shortest("b04", "a(ab)", 2);
        shortest("b04", "(ab)a", 1);
    }

    private void shortOrNone() {
        shortest("g59", "4[3[abcde]]", 59);
        shortest("g60", "4[3[abcde]]", 60);
        shortest("g61", "4[3[abcde]]", NONE);
        shortest("g99", "a", NONE);
        shortest("g00", "a", 0);
        SoundToll x = Check.made("g02,c03", "abcd");
        x.go(0, 0);
        due("worn once", x.shortest(0, 0), 3);
        x.go(0, 0);
        due("worn twice", x.shortest(0, 0), 4);
        x.go(0, 0);
        due("worn three times", x.shortest(0, 0), NONE);
        x.toll(0, 0);
        due("worn, at no toll", x.shortest(0, 0), 0);
        x.wind(1, 2);
        due("where the wind makes d of b", x.shortest(0, 1), 1);
        x.wind(1, 3);
        due("where the wind makes d of a", x.shortest(0, 1), 3);
        x.wind(1, 6);
        due("where the wind makes g of a", x.shortest(0, 1), 2);
    }

    private void shortUnknown() {
        refusesNoBook("shortest(.., 0)", (x, book) -> x.shortest(book, 0));
        refusesNoGate("shortest(0, ..)", (x, gate) -> x.shortest(0, gate));
        refusesNoGate("shortest(3, ..)", (x, gate) -> x.shortest(3, gate));
        refuses(Scenes::busy, "shortest of neither", (x, number) -> x.shortest(number, number), UNKNOWN, -1, 4);
        still(Scenes::busy, "shortest(0, 0)", x -> x.shortest(0, 0), 3);
        still(Scenes::busy, "shortest(3, 2)", x -> x.shortest(3, 2), NONE);
    }

    private void higher(String road, String tune, int by, int many) {
        still(() -> Check.made(road, tune), "higher(0, 0) of " + tune + " at " + road, x -> x.higher(0, 0), by);
        still(() -> Check.made(road, tune), "higher(0, 1) of " + tune + " at " + road, x -> x.higher(0, 1), many);
    }

    private void leastHigher() {
        higher("c09,g00", "abc", 0, 2);
        higher("c09,g00", "gab", 1, 2);
        higher("c09,g00", "fga", 2, 2);
        higher("c09,g00", "efg", 3, 2);
        higher("c09,g00", "def", 4, 2);
        higher("c09,g00", "cde", 5, 2);
        higher("c09,g00", "bcd", 6, 2);
        higher("c10,g00", "bcd", 0, 1);
        higher("c03,g00", "d", 4, 2);
        higher("c03,g00", "g", 1, 2);
        higher("s07,g00", "ga", 0, 2);
        higher("s07,g00", "ab", 6, 2);
        higher("g01,g01", "a", 0, 2);
    }

    private void atHowMany() {
        higher("g01,g01,g01,g01", ".", 0, 0);
        higher("g00,g01,g02,g03", ".", 0, 1);
        higher("g00,g01,g02,g03", "a", 0, 2);
        higher("g00,g01,g02,g03", "aaa", 0, 4);
        higher("c03,c02,c01,g02", "d", 4, 3);
        higher("c03,c03,g01,g01", "d", 4, 4);
    }

    private void higherTold() {
        SoundToll x = Check.made("c09,c09,g00", "bcd");
        due("by six", x.higher(0, 0), 6);
        due("at all", x.higher(0, 1), 3);
        x.wind(0, 6);
        due("by none, at as many as by six", x.higher(0, 0), 0);
        due("at two", x.higher(0, 1), 2);
        x.wind(1, 6);
        due("by none", x.higher(0, 0), 0);
        due("at all", x.higher(0, 1), 3);
        x.wind(0, 5);
        x.wind(1, 5);
        due("by one more than the wind", x.higher(0, 0), 1);
        x.go(0, 0);
        due("worn, by less, at fewer", x.higher(0, 0), 1);
        due("at two", x.higher(0, 1), 2);
        x.toll(0, 8);
        due("at all again", x.higher(0, 1), 3);
        SoundToll y = Check.made("c09,g00", "abc");
        y.wind(0, 6);
        due("wind 6 and by one is all around", y.higher(0, 0), 1);
        y.wind(0, 1);
        due("wind 1 and by six is all around", y.higher(0, 0), 6);
    }

    private void higherUnknown() {
        for (int what : new int[] {0, 1, -1, 2}) {
            OfOne call = (x, book) -> x.higher(book, what);
            refusesNoBook("higher(.., " + what + ")", call);
            refuses(SoundToll::new, "higher(.., " + what + ") of a new object", call, UNKNOWN, -1, 0, 3, 4);
        }
        still(Scenes::busy, "higher(3, 1)", x -> x.higher(3, 1), 1);
    }

    private void higherOutside() {
        refuses(Scenes::busy, "higher(0, ..)", (x, what) -> x.higher(0, what), OUTSIDE, beyond(0, 1));
        refuses(Scenes::roadless, "higher(0, ..)", (x, what) -> x.higher(0, what), OUTSIDE, beyond(0, 1));
    }

    private void higherNoRoad() {
        refuses(Scenes::roadless, "higher(0, ..)", (x, what) -> x.higher(0, what), STATE, 0, 1);
        refuses(Scenes::roadless, "higher(3, ..)", (x, what) -> x.higher(3, what), STATE, 0, 1);
    }

    /** How many PASS, their CHANGE, and the GATES of the BOOKS. */
    private void sends(String road, String[] tunes, int... want) {
        for (int row = 0; row < SEND_ASKED.length; row++) {
            int what = SEND_ASKED[row];
            String call = "send(" + what + ") of " + String.join(" ", tunes) + " to " + road;
            still(() -> Check.made(road, tunes), call, x -> x.send(what), want[row]);
        }
    }

    private static String[] tunes(String... tunes) {
        return tunes;
    }

    private void oneEachAtMost() {
        sends("g00,g00", tunes(), 0, 0, NONE, NONE, NONE, NONE);
        sends("g01,g99", tunes("a", "a"), 1, 0, NONE, 0, NONE, NONE);
        sends("g01,g01,g01", tunes("a"), 1, 0, 0, NONE, NONE, NONE);
        sends("g00,g00", tunes("", "", "", "a"), 1, 1, NONE, NONE, NONE, 0);
        sends("g00,g00", tunes("", ".", "", "."), 2, 0, NONE, 0, NONE, 1);
    }

    private void mostAreSent() {
        sends("g01,g01", tunes("."), 0, 0, NONE, NONE, NONE, NONE);
        sends("g01,g02", tunes("a"), 1, 0, 0, NONE, NONE, NONE);
        sends("g01,g02", tunes("aa", "a"), 2, 0, 1, 0, NONE, NONE);
        sends("g02,g09", tunes("aa", "aaaaaaaaaaaaaaa"), 2, 6, 0, 1, NONE, NONE);
        sends("g15,g01", tunes("aaaaaaaaaaaaaaa", "aaaaaaaaaaaaaaa"), 2, 14, 0, 1, NONE, NONE);
        sends("g01,g01,g01,g01", tunes("a", "a", "a", "a"), 4, 0, 0, 1, 2, 3);
        sends("g01,g02,g03,g04", tunes("a", "a", "aaa", "aaa"), 3, 1, NONE, 0, 1, 2);
    }

    private void leastChange() {
        sends("g01,g02", tunes("aaa"), 1, 1, 1, NONE, NONE, NONE);
        sends("g01,g04", tunes("aaa"), 1, 2, 0, NONE, NONE, NONE);
        sends("g01,g99", tunes("aaa", "aa", "a", "aaaa"), 1, 0, NONE, NONE, 0, NONE);
        sends("g00,g03", tunes("aaaa", "aaa"), 2, 4, 0, 1, NONE, NONE);
        sends("g01,g03", tunes("aaa", "aa"), 2, 1, 1, 0, NONE, NONE);
        sends("g04,g03,g02,g01", tunes("a", "aa", "aaa", "aaaa"), 4, 0, 3, 2, 1, 0);
    }

    private void firstByNumbers() {
        sends("g01,g01", tunes("a"), 1, 0, 0, NONE, NONE, NONE);
        sends("g01,g01", tunes("a", "a"), 2, 0, 0, 1, NONE, NONE);
        sends("g01,g01", tunes("a", "a", "a"), 2, 0, NONE, 0, 1, NONE);
        sends("g01,g01", tunes("a", "a", "a", "a"), 2, 0, NONE, NONE, 0, 1);
        sends("g01,g01,g01", tunes("a", "a", "a", "a"), 3, 0, NONE, 0, 1, 2);
        sends("g01,g02,g01", tunes("aa", "aa"), 2, 1, 0, 1, NONE, NONE);
        sends("g02,g01,g01", tunes("aa", "aa"), 2, 1, 0, 1, NONE, NONE);
        sends("g01,g02,g02", tunes("aa", "a", "aa"), 3, 0, 1, 0, 2, NONE);
    }

    private void sendTold() {
        Scenes.Scene scene = () -> Check.made("g04,g03,g02,g01", "a", "aa", "aaa", "aaaa");
        int[] want = {4, 0, 3, 2, 1, 0};
        for (int row = 0; row < SEND_ASKED.length; row++) {
            int what = SEND_ASKED[row];
            still(scene, "send(" + what + ")", x -> x.send(what), want[row]);
        }
        SoundToll x = Check.made("g02,c04", "da", "d");
        told(x, 1, 0, 0, NONE, NONE, NONE);
        x.wind(1, 6);
        told(x, 1, 0, 0, NONE, NONE, NONE);
        x.toll(1, 2);
        told(x, 2, 1, 0, 1, NONE, NONE);
        x.go(0, 0);
        told(x, 1, 1, NONE, 1, NONE, NONE);
        x.burn(1);
        told(x, 1, 2, 1, NONE, NONE, NONE);
        x.burn(0);
        told(x, 0, 0, NONE, NONE, NONE, NONE);
    }

    private void told(SoundToll x, int... want) {
        for (int row = 0; row < SEND_ASKED.length; row++) {
            due("send(" + SEND_ASKED[row] + ")", x.send(SEND_ASKED[row]), want[row]);
        }
    }

    private void sendOutside() {
        int[] beyond = {-1, 2, 3, 8, 9, 14, 15, 101, Integer.MIN_VALUE, Integer.MAX_VALUE};
        refuses(Scenes::busy, "send", SoundToll::send, OUTSIDE, beyond);
        refuses(Scenes::roadless, "send", SoundToll::send, OUTSIDE, beyond);
    }

    private void sendNoRoad() {
        refuses(Scenes::roadless, "send", SoundToll::send, STATE, SEND_ASKED);
        refuses(SoundToll::new, "send", SoundToll::send, STATE, SEND_ASKED);
    }
}
