/** Promises 14 (but for what is SEEN) to 20: gate, as, pays, worn, wind, toll, go. */
final class GateEdges extends Edges {
    GateEdges(Sentences doc) {
        super(doc);
    }

    @Override
    void hold() {
        promise(14, "Of a GATE: what = 0 KIND, 1 TOLL, 2 WIND", this::kindTollWind);
        promise(14, "3 how many PASSED, 4 what is owed there", this::passedAndOwed);
        promise(14, "UNKNOWN", this::gateUnknown);
        promise(14, "OUTSIDE.", this::gateOutside);
        promise(15, "A GATE taken as a KIND: its own number (not that of the KIND)", this::ownNumber);
        promise(15, "NONE: it is none such (the cast fails).", this::noneSuch);
        promise(15, "UNKNOWN", this::asUnknown);
        promise(15, "OUTSIDE.", this::asOutside);
        promise(16, "What a TUNE PAYS at a GATE now.", this::paysNow);
        promise(16, "UNKNOWN: book (also if it is empty), gate.", () -> unknownTwos("pays", SoundToll::pays));
        promise(17, "How often a TUNE is WORN at a GATE.", this::wornHere);
        promise(17, "UNKNOWN: book (also if it is empty), gate.", () -> unknownTwos("worn", SoundToll::worn));
        promise(18, "A WIND at a GATE: which blew.", this::whichBlew);
        promise(18, "UNKNOWN: gate", this::windUnknown);
        promise(18, "OUTSIDE: wind (0 to 6).", this::windOutside);
        promise(19, "The TOLL at a GATE becomes so much: how much it was.", this::howMuchItWas);
        promise(19, "UNKNOWN: gate", this::tollUnknown);
        promise(19, "OUTSIDE: toll (0 to 99).", this::tollOutside);
        promise(20, "One goes with a TUNE to a GATE: what he PAYS", this::goes);
        promise(20, "he PASSES, or what is missing is owed there", this::passesOrOwes);
        promise(20, "it is WORN once more.", this::wornOnceMore);
        promise(20, "UNKNOWN: book (also if it is empty), gate", () -> unknownTwos("go", SoundToll::go));
        promise(20, "FULL: it is WORN 99 times there.", this::wornOut);
    }

    private interface OfTwo {
        long on(SoundToll x, int book, int gate);
    }

    private void unknownTwos(String call, OfTwo asked) {
        refusesNoBook(call + "(.., 0)", (x, book) -> asked.on(x, book, 0));
        refusesNoBook(call + "(.., 2)", (x, book) -> asked.on(x, book, 2));
        refusesNoGate(call + "(0, ..)", (x, gate) -> asked.on(x, 0, gate));
        refusesNoGate(call + "(3, ..)", (x, gate) -> asked.on(x, 3, gate));
        refuses(Scenes::busy, call + " of neither", (x, number) -> asked.on(x, number, number), UNKNOWN, -1, 4);
        due(call + "(0, 0) is known", asked.on(Scenes.busy(), 0, 0) >= 0 ? 1 : 0, 1);
        due(call + "(3, 2) is known", asked.on(Scenes.busy(), 3, 2) >= 0 ? 1 : 0, 1);
    }

    private void told(SoundToll x, int gate, int... want) {
        for (int what = 0; what < want.length; what++) {
            due("gate(" + gate + ", " + what + ")", x.gate(gate, what), want[what]);
        }
    }

    private void kindTollWind() {
        told(Check.made("g00,b99"), 0, 0, 0, 0);
        told(Check.made("g00,b99"), 1, 4, 99, 0);
        SoundToll x = Check.made("c01,d12,s50,b98");
        for (int gate = 0; gate < 4; gate++) {
            x.wind(gate, 6 - gate);
        }
        told(x, 0, 1, 1, 6);
        told(x, 1, 2, 12, 5);
        told(x, 2, 3, 50, 4);
        told(x, 3, 4, 98, 3);
        still(Scenes::busy, "gate(0, 0)", y -> y.gate(0, 0), 0);
        still(Scenes::busy, "gate(2, 1)", y -> y.gate(2, 1), 3);
        still(Scenes::busy, "gate(1, 2)", y -> y.gate(1, 2), 5);
    }

    private void passedAndOwed() {
        SoundToll x = Check.made("g02,g02,g03", "ab");
        told(x, 0, 0, 2, 0, 0, 0);
        x.go(0, 0);
        told(x, 0, 0, 2, 0, 1, 0);
        x.go(0, 0);
        told(x, 0, 0, 2, 0, 1, 1);
        x.go(0, 0);
        told(x, 0, 0, 2, 0, 1, 3);
        x.go(0, 2);
        told(x, 2, 0, 3, 0, 0, 1);
        told(x, 1, 0, 2, 0, 0, 0);
        still(Scenes::busy, "gate(2, 3)", y -> y.gate(2, 3), 1);
        still(Scenes::busy, "gate(1, 4)", y -> y.gate(1, 4), 1);
    }

    private void gateUnknown() {
        for (int what : new int[] {0, 3, 5, 8, -1, 9}) {
            refusesNoGate("gate(.., " + what + ")", (x, gate) -> x.gate(gate, what));
        }
    }

    private void gateOutside() {
        for (int gate : new int[] {0, 2}) {
            refuses(Scenes::busy, "gate(" + gate + ", ..)", (x, what) -> x.gate(gate, what), OUTSIDE, beyond(0, 8));
            still(Scenes::busy, "gate(" + gate + ", 0)", x -> x.gate(gate, 0), gate == 0 ? 0 : 4);
            due("gate(" + gate + ", 8) is told", Scenes.busy().gate(gate, 8) >= NONE ? 1 : 0, 1);
        }
    }

    private void ownNumber() {
        Scenes.Scene four = () -> Check.made("b00,s00,g00,g00");
        for (int gate = 0; gate < 4; gate++) {
            int asked = gate;
            still(four, "as(" + gate + ", 0)", x -> x.as(asked, 0), gate);
        }
        still(four, "as(0, 4)", x -> x.as(0, 4), 0);
        still(four, "as(0, 3)", x -> x.as(0, 3), 0);
        still(four, "as(1, 3)", x -> x.as(1, 3), 1);
    }

    private void noneSuch() {
        Scenes.Scene four = () -> Check.made("g00,c00,d00,s00");
        int[][] none = {{0, 1}, {0, 2}, {0, 3}, {0, 4}, {1, 2}, {1, 3}, {1, 4}, {2, 1}, {2, 3}, {2, 4}, {3, 1}, {3, 2},
            {3, 4}};
        for (int[] row : none) {
            still(four, "as(" + row[0] + ", " + row[1] + ")", x -> x.as(row[0], row[1]), NONE);
        }
        still(() -> Check.made("g00,b00"), "as(1, 1)", x -> x.as(1, 1), NONE);
        still(() -> Check.made("g00,b00"), "as(1, 2)", x -> x.as(1, 2), NONE);
    }

    private void asUnknown() {
        for (int kind : new int[] {0, 4, -1, 5}) {
            refusesNoGate("as(.., " + kind + ")", (x, gate) -> x.as(gate, kind));
        }
    }

    private void asOutside() {
        for (int gate : new int[] {0, 2}) {
            refuses(Scenes::busy, "as(" + gate + ", ..)", (x, kind) -> x.as(gate, kind), OUTSIDE, beyond(0, 4));
        }
        still(Scenes::busy, "as(2, 0)", x -> x.as(2, 0), 2);
        still(Scenes::busy, "as(2, 4)", x -> x.as(2, 4), 2);
    }

    private void paysNow() {
        SoundToll x = Check.made("c50,g50", "ad", ".");
        due("pays", x.pays(0, 0), 4);
        due("a rest pays", x.pays(1, 0), 0);
        x.wind(0, 3);
        due("pays in a wind", x.pays(0, 0), 2);
        x.go(0, 0);
        due("pays worn once", x.pays(0, 0), 1);
        x.go(0, 0);
        due("pays worn twice", x.pays(0, 0), 0);
        x.go(0, 0);
        due("pays worn three times", x.pays(0, 0), 0);
        x.toll(0, 0);
        due("pays at no toll", x.pays(0, 0), 0);
        due("pays elsewhere", x.pays(0, 1), 2);
        Check.write(x, 0, "d");
        due("another tune pays", x.pays(0, 0), 1);
        still(Scenes::busy, "pays(0, 0)", y -> y.pays(0, 0), 3);
    }

    private void wornHere() {
        SoundToll x = Check.made("g00,g00", "a", "b");
        due("worn at first", x.worn(0, 0), 0);
        for (int times = 1; times <= 99; times++) {
            x.go(0, 0);
            due("worn(0, 0)", x.worn(0, 0), times);
        }
        x.go(0, 0);
        due("worn at most", x.worn(0, 0), 99);
        due("worn(0, 1)", x.worn(0, 1), 0);
        due("worn(1, 0)", x.worn(1, 0), 0);
        still(Scenes::busy, "worn(1, 1)", y -> y.worn(1, 1), 2);
        still(Scenes::busy, "worn(3, 1)", y -> y.worn(3, 1), 0);
    }

    private void whichBlew() {
        SoundToll x = Check.made("g00,c00", "a");
        due("wind(0, 6) where none blew", x.wind(0, 6), 0);
        due("wind(0, 6) again", x.wind(0, 6), 6);
        due("gate(0, 2)", x.gate(0, 2), 6);
        due("elsewhere", x.gate(1, 2), 0);
        due("wind(0, 0)", x.wind(0, 0), 6);
        due("gate(0, 2)", x.gate(0, 2), 0);
        due("wind(1, 1)", x.wind(1, 1), 0);
        due("wind(1, 5)", x.wind(1, 5), 1);
    }

    private void windUnknown() {
        for (int wind : new int[] {0, 6, -1, 7}) {
            refusesNoGate("wind(.., " + wind + ")", (x, gate) -> x.wind(gate, wind));
        }
        due("wind(0, 0)", Scenes.busy().wind(0, 0), 1);
        due("wind(2, 0)", Scenes.busy().wind(2, 0), 0);
    }

    private void windOutside() {
        for (int gate : new int[] {0, 2}) {
            refuses(Scenes::busy, "wind(" + gate + ", ..)", (x, wind) -> x.wind(gate, wind), OUTSIDE, beyond(0, 6));
        }
        due("wind(1, 0)", Scenes.busy().wind(1, 0), 5);
        due("wind(1, 6)", Scenes.busy().wind(1, 6), 5);
    }

    private void howMuchItWas() {
        SoundToll x = Check.made("g00,c99", "a");
        due("toll(0, 99)", x.toll(0, 99), 0);
        due("gate(0, 1)", x.gate(0, 1), 99);
        due("nothing elsewhere", x.gate(1, 1), 99);
        due("toll(0, 0)", x.toll(0, 0), 99);
        due("toll(0, 1)", x.toll(0, 1), 0);
        due("toll(0, 1) again", x.toll(0, 1), 1);
        due("toll(1, 0)", x.toll(1, 0), 99);
        due("gate(1, 1)", x.gate(1, 1), 0);
    }

    private void tollUnknown() {
        for (int toll : new int[] {0, 99, -1, 100}) {
            refusesNoGate("toll(.., " + toll + ")", (x, gate) -> x.toll(gate, toll));
        }
        due("toll(0, 0)", Scenes.busy().toll(0, 0), 2);
        due("toll(2, 0)", Scenes.busy().toll(2, 0), 3);
    }

    private void tollOutside() {
        for (int gate : new int[] {0, 2}) {
            refuses(Scenes::busy, "toll(" + gate + ", ..)", (x, toll) -> x.toll(gate, toll), OUTSIDE, beyond(0, 99));
        }
        due("toll(1, 0)", Scenes.busy().toll(1, 0), 4);
        due("toll(1, 99)", Scenes.busy().toll(1, 99), 4);
    }

    private void goes() {
        SoundToll x = Check.made("c02,g03", "ad", ".");
        due("go(0, 0)", x.go(0, 0), 4);
        due("go(0, 0) worn", x.go(0, 0), 3);
        x.wind(0, 3);
        due("go(0, 0) in a wind", x.go(0, 0), 0);
        due("go(0, 0) worn out", x.go(0, 0), 0);
        due("go(0, 1)", x.go(0, 1), 2);
        due("go(1, 1)", x.go(1, 1), 0);
    }

    private void passesOrOwes() {
        for (int toll = 1; toll <= 5; toll++) {
            SoundToll x = Check.made("g0" + toll + ",g00", "abc");
            x.go(0, 0);
            due("passed at toll " + toll, x.gate(0, 3), toll <= 3 ? 1 : 0);
            due("owed at toll " + toll, x.gate(0, 4), Math.max(0, toll - 3));
            due("passed elsewhere", x.gate(1, 3), 0);
        }
        SoundToll y = Check.made("g00,g99", ".");
        y.go(0, 0);
        y.go(0, 0);
        due("who pays 0 passes at toll 0", y.gate(0, 3), 2);
        y.go(0, 1);
        y.go(0, 1);
        due("who pays 0 owes all of toll 99", y.gate(1, 4), 198);
        due("and does not pass", y.gate(1, 3), 0);
    }

    private void wornOnceMore() {
        SoundToll x = Check.made("g01,g99", "ab", "c");
        x.go(0, 0);
        due("worn where he passes", x.worn(0, 0), 1);
        x.go(0, 1);
        x.go(0, 1);
        due("worn where he does not", x.worn(0, 1), 2);
        due("worn(1, 0)", x.worn(1, 0), 0);
        due("count(5)", x.count(5), 3);
    }

    private static SoundToll wornAt(int times) {
        SoundToll x = Check.made("g01,g00", "a", "b");
        for (int time = 0; time < times; time++) {
            x.go(0, 0);
        }
        return x;
    }

    private void wornOut() {
        SoundToll x = wornAt(98);
        due("go, worn 98 times", x.go(0, 0), 0);
        due("worn", x.worn(0, 0), 99);
        due("owed", x.gate(0, 4), 98);
        still(() -> wornAt(99), "go, worn 99 times", y -> y.go(0, 0), FULL);
        refuses(() -> wornAt(99), "go, worn 99 times", (y, book) -> y.go(book, 0), UNKNOWN, -1, 2, 4);
        refuses(() -> wornAt(99), "go, worn 99 times", (y, gate) -> y.go(0, gate), UNKNOWN, -1, 2, 4);
        SoundToll z = wornAt(99);
        due("go elsewhere", z.go(0, 1), 1);
        due("go with another one", z.go(1, 0), 1);
        Check.write(z, 0, "a");
        due("go with a new one", z.go(0, 0), 1);
        z = wornAt(99);
        Check.lay(z, "g01,g00");
        due("go on another road", z.go(0, 0), 1);
    }
}
