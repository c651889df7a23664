/** What the Terms tell of ROADS and KINDS, and promise 6: road. */
final class RoadEdges extends Edges {
    private static final String LETTERS = "gcdsb";

    RoadEdges(Sentences doc) {
        super(doc);
    }

    @Override
    void hold() {
        term("A ROAD is a text: two to four GATES (numbered from 0) with \",\" between", this::twoToFourGates);
        term("each a letter, the KIND, and two digits, the TOLL (0 to 99).", this::letterAndTwoDigits);
        term("At first there is none", this::noneAtFirst);
        term("then no WIND blows, nothing is WORN.", this::noWindNothingWorn);
        term("KINDS are told by the letter: 0 GATE \"g\", 1 CART \"c\", 2 DEAF \"d\", 3 STEEP \"s\", 4 BELL \"b\".",
                this::kindsByLetter);
        term("All are GATES; a BELL is STEEP, too.", this::kindsOfKinds);
        promise(6, "THE PAGE is read as THE ROAD", this::readAsRoad);
        promise(6, "(another one is gone, with all that was of it,", this::anotherIsGone);
        promise(6, "and what is SEEN", this::seenIsGone);
        promise(6, "TUNES stay)", this::tunesStay);
        promise(6, "how many GATES", this::howManyGates);
        promise(6, "THE PAGE is empty then.", this::pageIsEmpty);
        promise(6, "STATE: it is none.", this::noneIsRefused);
    }

    private void noRoad(String text) {
        still(() -> Scenes.busy(text), "road() of " + text, SoundToll::road, STATE);
        still(() -> Scenes.spelt(text), "road() of " + text + ", the first one", SoundToll::road, STATE);
    }

    private void twoToFourGates() {
        noRoad("g00");
        due("two gates", Check.lay(new SoundToll(), "g00,c01"), 2);
        due("three gates", Check.lay(new SoundToll(), "g00,c01,d02"), 3);
        due("four gates", Check.lay(new SoundToll(), "g00,c01,d02,s03"), 4);
        noRoad("g00,c01,d02,s03,b04");
        for (String between : new String[] {"", ";", ".", " ", ",,", "-", "+"}) {
            noRoad("g00" + between + "c01");
        }
        for (int gates = 2; gates <= 4; gates++) {
            String road = "g00,c01,d02,s03".substring(0, 4 * gates - 1);
            for (int gate = 0; gate < gates; gate++) {
                due("toll of gate " + gate + " of " + gates, Check.made(road).gate(gate, 1), gate);
            }
            refuses(() -> Check.made(road), "gate(.., 1) of " + gates, (x, gate) -> x.gate(gate, 1), UNKNOWN,
                    beyond(0, gates - 1));
        }
    }

    private void letterAndTwoDigits() {
        for (int toll : new int[] {0, 1, 9, 10, 19, 90, 98, 99}) {
            String digits = toll < 10 ? "0" + toll : "" + toll;
            SoundToll x = Check.made("g" + digits + ",b" + digits);
            due("toll of g" + digits, x.gate(0, 1), toll);
            due("toll of b" + digits, x.gate(1, 1), toll);
        }
        for (String gate : new String[] {"g", "g0", "g000", "00", "0g0", "00g", "gg00", "g/0", "g:0", "g0/", "g0:",
            "g-1", "g 0", "g0 "}) {
            noRoad(gate + ",g00");
            noRoad("g00," + gate);
        }
    }

    private void noneAtFirst() {
        still(SoundToll::new, "count(0)", x -> x.count(0), 0);
        still(SoundToll::new, "road()", SoundToll::road, STATE);
        refuses(Scenes::roadless, "gate(.., 0)", (x, gate) -> x.gate(gate, 0), UNKNOWN, 0, 1, 2, 3);
    }

    private void noWindNothingWorn() {
        SoundToll x = Check.made("g00,c01,d02,s03", "a", "b", "c", "d");
        for (int gate = 0; gate < 4; gate++) {
            due("wind at " + gate, x.gate(gate, 2), 0);
            for (int book = 0; book < 4; book++) {
                due("worn(" + book + ", " + gate + ")", x.worn(book, gate), 0);
            }
        }
        still(SoundToll::new, "count(5)", at -> at.count(5), 0);
    }

    private void kindsByLetter() {
        for (int kind = 0; kind < 5; kind++) {
            char letter = LETTERS.charAt(kind);
            due("kind of " + letter, Check.made(letter + "00,g00").gate(0, 0), kind);
            due("kind of the last " + letter, Check.made("g00,g00,g00," + letter + "00").gate(3, 0), kind);
        }
        for (int code = 32; code <= 126; code++) {
            SoundToll x = Scenes.spelt((char) code + "00,g00");
            boolean isKind = LETTERS.indexOf(code) >= 0;
            due("fault() of " + (char) code + "00,g00", x.fault(), isKind ? 7 : 0);
            due("road() of " + (char) code + "00,g00", x.road(), isKind ? 2 : STATE);
        }
    }

    private void kindsOfKinds() {
        int[][] isOf = {{1, 0, 0, 0, 0}, {1, 1, 0, 0, 0}, {1, 0, 1, 0, 0}, {1, 0, 0, 1, 0}, {1, 0, 0, 1, 1}};
        for (int kind = 0; kind < 5; kind++) {
            String road = "g00,g00," + LETTERS.charAt(kind) + "00";
            for (int asked = 0; asked < 5; asked++) {
                int as = asked;
                int want = isOf[kind][asked] == 1 ? 2 : NONE;
                still(() -> Check.made(road), "as(2, " + asked + ") of " + road, x -> x.as(2, as), want);
            }
        }
    }

    private void readAsRoad() {
        SoundToll x = Scenes.busy("b99,d07,s10,c00");
        due("road()", x.road(), 4);
        int[] kinds = {4, 2, 3, 1};
        int[] tolls = {99, 7, 10, 0};
        for (int gate = 0; gate < 4; gate++) {
            due("kind of " + gate, x.gate(gate, 0), kinds[gate]);
            due("toll of " + gate, x.gate(gate, 1), tolls[gate]);
        }
        due("count(9)", x.count(9), 2);
        due("count(0)", x.count(0), 4);
    }

    private void anotherIsGone() {
        SoundToll x = Scenes.busy("g02,c05,b04");
        due("road() of the same text", x.road(), 3);
        int[] tolls = {2, 5, 4};
        for (int gate = 0; gate < 3; gate++) {
            due("toll of " + gate, x.gate(gate, 1), tolls[gate]);
            due("wind at " + gate, x.gate(gate, 2), 0);
            due("passed at " + gate, x.gate(gate, 3), 0);
            due("owed at " + gate, x.gate(gate, 4), 0);
            due("worn(0, " + gate + ")", x.worn(0, gate), 0);
            due("worn(1, " + gate + ")", x.worn(1, gate), 0);
            due("worn(3, " + gate + ")", x.worn(3, gate), 0);
        }
        due("count(3)", x.count(3), 0);
        due("count(4)", x.count(4), 0);
        due("count(5)", x.count(5), 0);
        due("the image is gone", x.restore(), STATE);
        due("road() of fewer gates", Check.lay(x, "s00,s00"), 2);
        due("the third gate is gone", x.gate(2, 0), UNKNOWN);
        due("gate 1 is another one", x.gate(1, 0), 3);
        x.go(0, 1);
        due("road() of more gates", Check.lay(x, "g00,g00,g00,g00"), 4);
        due("worn there", x.worn(0, 1), 0);
    }

    private void seenIsGone() {
        SoundToll x = Scenes.busy("g02,c05,b04");
        due("seen ahead of it", x.count(7), 3);
        x.road();
        due("count(7)", x.count(7), 0);
        for (int gate = 0; gate < 3; gate++) {
            due("tolls at " + gate, x.gate(gate, 5), 100);
            due("least at " + gate, x.gate(gate, 6), 0);
            due("greatest at " + gate, x.gate(gate, 7), 99);
        }
        due("forget()", x.forget(), 0);
        for (int seen = 1; seen <= 8; seen++) {
            x.see(0, 0, true);
        }
        Check.lay(x, "g00,g00");
        due("see() behind a road, where it was full", x.see(0, 0, true), 1);
    }

    private void tunesStay() {
        SoundToll x = Scenes.busy("s00,s01");
        x.road();
        due("tune(0, 0)", x.tune(0, 0), 3);
        due("tune(1, 0)", x.tune(1, 0), 4);
        due("tune(1, 7)", x.tune(1, 7), 2);
        due("beat(1, 3)", x.beat(1, 3), 64);
        due("tune(2, 0)", x.tune(2, 0), UNKNOWN);
        due("tune(3, 0)", x.tune(3, 0), 2);
        due("count(10)", x.count(10), 3);
    }

    private void howManyGates() {
        for (int gates = 2; gates <= 4; gates++) {
            SoundToll x = Scenes.busy("g00,c01,d02,s03".substring(0, 4 * gates - 1));
            due("road()", x.road(), gates);
            due("count(0)", x.count(0), gates);
        }
    }

    private void pageIsEmpty() {
        SoundToll x = Scenes.busy("g00,c01");
        x.road();
        due("count(8)", x.count(8), 0);
        due("fault()", x.fault(), 0);
        due("road() again", x.road(), STATE);
        due("blank()", x.blank(), 0);
        due("letter('a')", x.letter('a'), 1);
    }

    private void noneIsRefused() {
        String four = "g00,c01,d02,s03";
        noRoad("");
        for (int letters = 1; letters < four.length(); letters++) {
            if (letters != 7 && letters != 11) {
                noRoad(four.substring(0, letters));
            }
        }
        for (String text : new String[] {four + ",", four + ",b04", four + "g", four + "0", "g00,c0x", "x00,c01", "ab.",
            "g00,c01 ", " g00,c01", "g00,c01,".repeat(5)}) {
            noRoad(text);
        }
    }
}
