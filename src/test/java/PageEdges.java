/** Promises 1 to 5: a new object, letter, blank, fault, tuneFault. */
final class PageEdges extends Edges {
    PageEdges(Sentences doc) {
        super(doc);
    }

    @Override
    void hold() {
        promise(1, "No ROAD", this::noRoadAtFirst);
        promise(1, "four empty BOOKS.", this::fourEmptyBooks);
        promise(2, "A letter comes behind THE PAGE, told by its code: how many THE PAGE has.", this::comesBehind);
        promise(2, "OUTSIDE: code (32 to 126)", this::codes);
        promise(2, "FULL: above 40.", this::fullPage);
        promise(3, "THE PAGE is empty: how many letters it had.", this::blankPage);
        promise(4, "The place (from 0) of the first letter of THE PAGE that no ROAD has there", this::roadFaults);
        promise(4, "behind those ahead of it", this::roadFaultsBehind);
        promise(4, "how many letters it has, if there is none.", this::noRoadFault);
        promise(5, "The place of the first letter of THE PAGE that no TUNE has there", this::tuneFaults);
        promise(5, "behind those ahead of it", this::tuneFaultsBehind);
        promise(5, "(however many BEATS it has)", this::manyBeatsAreNoFault);
        promise(5, "how many letters it has, if there is none.", this::noTuneFault);
    }

    private void noRoadAtFirst() {
        still(SoundToll::new, "count(0)", x -> x.count(0), 0);
        refuses(SoundToll::new, "gate(.., 0)", (x, gate) -> x.gate(gate, 0), UNKNOWN, -1, 0, 1, 3, 4);
        still(SoundToll::new, "send(0)", x -> x.send(0), STATE);
        still(SoundToll::new, "fairs(1, 0, 0)", x -> x.fairs(1, 0, 0), STATE);
        still(SoundToll::new, "image()", SoundToll::image, STATE);
        still(SoundToll::new, "restore()", SoundToll::restore, STATE);
        Check.made("g00,g00", "a").image();
        still(SoundToll::new, "count(0) behind another object", x -> x.count(0), 0);
    }

    private void fourEmptyBooks() {
        refuses(SoundToll::new, "burn", SoundToll::burn, STATE, 0, 1, 2, 3);
        refuses(SoundToll::new, "burn", SoundToll::burn, UNKNOWN, NO_BOOK);
        refuses(SoundToll::new, "beat(.., 0)", (x, book) -> x.beat(book, 0), UNKNOWN, 0, 1, 2, 3);
        for (int what = 0; what <= 10; what++) {
            int asked = what;
            still(SoundToll::new, "count(" + what + ")", x -> x.count(asked), 0);
        }
    }

    private void comesBehind() {
        SoundToll x = new SoundToll();
        due("letter('a')", x.letter('a'), 1);
        due("letter('.')", x.letter('.'), 2);
        due("letter('g')", x.letter('g'), 3);
        due("count(8)", x.count(8), 3);
        due("write(0)", x.write(0), 3);
        due("beat(0, 0)", x.beat(0, 0), 1);
        due("beat(0, 1)", x.beat(0, 1), 0);
        due("beat(0, 2)", x.beat(0, 2), 64);
        due("letter('b') on the page that is empty again", x.letter('b'), 1);
    }

    private void codes() {
        refuses(Scenes::busy, "letter", SoundToll::letter, OUTSIDE, beyond(32, 126));
        refuses(Scenes::busy, "letter", SoundToll::letter, OUTSIDE, 0, 10, 128, 256 + 'a', 65536 + 'a', -'a');
        SoundToll x = new SoundToll();
        due("letter(32)", x.letter(32), 1);
        due("letter(33)", x.letter(33), 2);
        due("letter(125)", x.letter(125), 3);
        due("letter(126)", x.letter(126), 4);
    }

    private void fullPage() {
        Scenes.Scene full = () -> Scenes.busy("a".repeat(40));
        SoundToll x = Scenes.busy("a".repeat(38));
        due("letter 39", x.letter('a'), 39);
        due("letter 40", x.letter('a'), 40);
        due("letter 41", x.letter('a'), FULL);
        due("count(8)", x.count(8), 40);
        refuses(full, "letter", SoundToll::letter, FULL, 32, 'b', 126);
        refuses(full, "letter that is full, too", SoundToll::letter, OUTSIDE, beyond(32, 126));
        x.blank();
        due("letter on the page that is empty again", x.letter('a'), 1);
    }

    private void blankPage() {
        for (int letters : new int[] {0, 1, 39, 40}) {
            SoundToll x = Scenes.spelt("(".repeat(letters));
            due("blank() of " + letters, x.blank(), letters);
            due("count(8)", x.count(8), 0);
            due("fault()", x.fault(), 0);
            due("tuneFault()", x.tuneFault(), 0);
            due("blank() again", x.blank(), 0);
            due("letter behind it", x.letter('a'), 1);
        }
        still(() -> Scenes.busy(""), "blank() of an empty page", SoundToll::blank, 0);
    }

    private void roadFault(String page, int want) {
        still(() -> Scenes.spelt(page), "fault() of " + page, SoundToll::fault, want);
    }

    private void tuneFault(String page, int want) {
        still(() -> Scenes.spelt(page), "tuneFault() of " + page, SoundToll::tuneFault, want);
    }

    private void roadFaults() {
        String four = "g00,c12,s98,b99";
        roadFault("x", 0);
        for (int place = 0; place < four.length(); place++) {
            roadFault(four.substring(0, place) + "x", place);
            roadFault(four.substring(0, place) + "x" + four.substring(place + 1), place);
        }
        for (String beyond : new String[] {",", "0", "g", " ", ",g00", ",g00,g00,g00,g00,g00,g00"}) {
            roadFault(four + beyond, 15);
        }
        roadFault("x".repeat(40), 0);
        roadFault("g0x,y00", 2);
    }

    private void roadFaultsBehind() {
        roadFault("0", 0);
        roadFault("gg", 1);
        roadFault("g0g", 2);
        roadFault("g000", 3);
        roadFault("g00g", 3);
        roadFault("g00,,", 4);
        roadFault("g00,0", 4);
        roadFault(",", 0);
        roadFault("g,", 1);
        roadFault("g0,", 2);
    }

    private void noRoadFault() {
        String four = "g00,c12,s98,b99";
        for (int letters = 0; letters <= four.length(); letters++) {
            roadFault(four.substring(0, letters), letters);
        }
        still(() -> Scenes.busy(""), "fault() of an empty page", SoundToll::fault, 0);
    }

    private void tuneFaults() {
        tuneFault("x", 0);
        tuneFault("ax", 1);
        tuneFault("xx", 0);
        tuneFault("a".repeat(39) + "x", 39);
        tuneFault("a".repeat(38) + "xx", 38);
        tuneFault("2[(ab)<^c>]x", 11);
        for (int code = 32; code <= 126; code++) {
            tuneFault("" + (char) code, "abcdefg.(234<^".indexOf(code) >= 0 ? 1 : 0);
        }
    }

    private void tuneFaultsBehind() {
        String[] faults = {"()", "(.", "(^", "((", "(ah", "(ab.", "2a", "2]", "22", "2(", "2[]", "2[>", "2[a>", "3[1",
            "<>", "<]", "<a]", "<2[a>", "^)", "^]", "^>", "^1", "^[", "2[^]", "<^>", "]", ">", ")", "[", "1", "5", "a]",
            "a>", "a)", "2[a]]", "<a>>", "(a))", "2[a]>", "<a>]"};
        for (String fault : faults) {
            tuneFault(fault, fault.length() - 1);
            tuneFault(fault + "a", fault.length() - 1);
            tuneFault("^a" + fault, fault.length() + 1);
        }
    }

    private void manyBeatsAreNoFault() {
        String sixty = "4[3[abcde]]";
        String many = "4[".repeat(13) + "a" + "]".repeat(13);
        tuneFault(sixty, 11);
        tuneFault(sixty + "a", 12);
        tuneFault(sixty + "a)", 12);
        tuneFault(sixty + "2[(ab)]<^.>", 22);
        tuneFault(sixty + "2[(ab)]<^.>>", 22);
        tuneFault(many, 40);
        tuneFault(many.substring(0, 39) + ">", 39);
        tuneFault("4[4[4[a]]](", 11);
        tuneFault("4[4[4[a]]]()", 11);
    }

    private void noTuneFault() {
        String whole = "a.^g(aab)2[<c>4[d]]<^^(fg)3[.]>";
        for (int letters = 0; letters <= whole.length(); letters++) {
            tuneFault(whole.substring(0, letters), letters);
        }
        for (String open : new String[] {"<", "^", "a", "."}) {
            tuneFault(open.repeat(40), 40);
        }
        tuneFault("2[".repeat(20), 40);
        tuneFault("(" + "g".repeat(39), 40);
        still(() -> Scenes.busy(""), "tuneFault() of an empty page", SoundToll::tuneFault, 0);
    }
}
