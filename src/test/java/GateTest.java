/** Promises 14 to 20: gate, as, pays, worn, wind, toll, go. */
public final class GateTest {
    private static final Check CHECK = new Check();
    private static final int[] NO_GATE = {2, 3, 4, -1, Integer.MIN_VALUE, Integer.MAX_VALUE};
    private static final int[] NO_BOOK = {1, 4, -1, Integer.MIN_VALUE, Integer.MAX_VALUE};

    public static void main(String[] args) {
        kinds();
        worths();
        winds();
        changes();
        goes();
        wornOut();
        refused();
        noRoad();
        CHECK.end();
    }

    private static void kinds() {
        String letters = "gcdsb";
        for (int kind = 0; kind < 5; kind++) {
            SoundToll x = Check.made("g00,g00," + letters.charAt(kind) + "07");
            CHECK.due("kind " + kind, x.gate(2, 0), kind);
            CHECK.due("toll", x.gate(2, 1), 7);
            for (int asked = 0; asked < 5; asked++) {
                int as = asked;
                boolean such = asked == 0 || asked == kind || kind == 4 && asked == 3;
                CHECK.still(x, kind + " as " + asked, () -> x.as(2, as), such ? 2 : -1);
            }
            CHECK.still(x, kind + " as 5", () -> x.as(2, 5), SoundToll.OUTSIDE);
            CHECK.still(x, kind + " as -1", () -> x.as(2, -1), SoundToll.OUTSIDE);
        }
        CHECK.due("its own number", Check.made("g00,g00").as(0, 0), 0);
    }

    /** What a TUNE PAYS at a GATE of each kind: g, c, d, s, b. */
    private static void worth(String tune, int... want) {
        SoundToll x = Check.made("g00,c00,d00,s00", tune);
        SoundToll y = Check.made("g00,b00", tune);
        for (int gate = 0; gate < 4; gate++) {
            CHECK.due(tune + " pays at kind " + gate, x.pays(0, gate), want[gate]);
        }
        CHECK.due(tune + " pays at kind 4", y.pays(0, 1), want[4]);
    }

    private static void worths() {
        worth("a", 1, 3, 2, 1, 1);
        worth("b", 1, 3, 2, 1, 1);
        worth("c", 1, 3, 2, 1, 1);
        worth("d", 1, 1, 2, 1, 1);
        worth("g", 1, 1, 2, 1, 1);
        worth(".", 0, 0, 0, 0, 0);
        worth(".g", 1, 1, 0, 1, 1);
        worth("..g", 1, 1, 2, 1, 1);
        worth("ag", 2, 4, 2, 7, 7);
        worth("ga", 2, 4, 2, 7, 7);
        worth("aa", 2, 6, 2, 1, 1);
        worth("a.g", 2, 4, 4, 7, 7);
        worth("a...g.b", 3, 7, 6, 12, 12);
        worth("(ab)", 2, 6, 4, 1, 4);
        worth("(abcdefg)", 7, 13, 14, 1, 4);
        worth("(ag)(af)", 4, 8, 4, 2, 8);
        worth("(ad)c(abc)", 6, 16, 10, 2, 8);
        worth("abcdefg", 7, 13, 8, 7, 7);
        worth("4[3[gagag]]", 60, 108, 60, 289, 289);
    }

    private static void winds() {
        SoundToll x = Check.made("c00,b00,d00", "abcdefg", "(ag)b");
        int[] cart = {13, 13, 13, 13, 13, 13, 13};
        int[] bell = {9, 6, 4, 5, 6, 7, 8};
        for (int wind = 0; wind < 7; wind++) {
            CHECK.due("wind " + wind, x.wind(0, wind), wind == 0 ? 0 : wind - 1);
            CHECK.due("gate wind", x.gate(0, 2), wind);
            CHECK.due("the other gate", x.gate(1, 2), wind == 0 ? 0 : wind - 1);
            CHECK.due("pays at cart " + wind, x.pays(0, 0), cart[wind]);
            CHECK.due("bell " + wind, x.wind(1, wind), wind == 0 ? 0 : wind - 1);
            CHECK.due("pays at bell " + wind, x.pays(1, 1), 4 + bellClimb(wind));
        }
        SoundToll y = Check.made("c00,g00", "a");
        int[] want = {3, 3, 3, 1, 1, 1, 1};
        for (int wind = 0; wind < 7; wind++) {
            y.wind(0, wind);
            CHECK.due("a in wind " + wind, y.pays(0, 0), want[wind]);
        }
        CHECK.due("it blows no more", y.wind(0, 0), 6);
        CHECK.due("a", y.pays(0, 0), 3);
        CHECK.due("bells", bell.length, 7);
    }

    /** From (ag) to b, both by so many higher. */
    private static int bellClimb(int wind) {
        int from = Math.max(wind, (6 + wind) % 7);
        return Math.abs((1 + wind) % 7 - from);
    }

    private static void changes() {
        SoundToll x = Check.made("c05,b09", "(ab)", "c");
        CHECK.due("toll(0, 99)", x.toll(0, 99), 5);
        CHECK.due("toll(0, 0)", x.toll(0, 0), 99);
        CHECK.due("toll(0, 6)", x.toll(0, 6), 0);
        CHECK.due("gate(0, 1)", x.gate(0, 1), 6);
        CHECK.due("gate(1, 1)", x.gate(1, 1), 9);
        CHECK.due("tune(0, 8)", x.tune(0, 8), 1);
        x.toll(0, 7);
        CHECK.due("tune(0, 8)", x.tune(0, 8), 0);
    }

    private static void goes() {
        SoundToll x = Check.made("g02,c03,s00", "ab.", "c", ".");
        CHECK.due("go(0, 0)", x.go(0, 0), 2);
        CHECK.due("passed", x.gate(0, 3), 1);
        CHECK.due("owed", x.gate(0, 4), 0);
        CHECK.due("worn", x.worn(0, 0), 1);
        CHECK.due("go again", x.go(0, 0), 1);
        CHECK.due("passed", x.gate(0, 3), 1);
        CHECK.due("owed", x.gate(0, 4), 1);
        CHECK.due("worn", x.worn(0, 0), 2);
        CHECK.due("go a third time", x.go(0, 0), 0);
        CHECK.due("go a fourth time", x.go(0, 0), 0);
        CHECK.due("owed", x.gate(0, 4), 5);
        CHECK.due("worn", x.worn(0, 0), 4);
        CHECK.due("pays", x.pays(0, 0), 0);
        CHECK.due("elsewhere it is worn", x.worn(0, 1), 0);
        CHECK.due("elsewhere it pays", x.pays(0, 1), 6);
        CHECK.due("another one pays", x.pays(1, 0), 1);
        CHECK.due("another one is worn", x.worn(1, 0), 0);
        CHECK.due("go(1, 1)", x.go(1, 1), 3);
        CHECK.due("passed there", x.gate(1, 3), 1);
        CHECK.due("rests at no toll", x.go(2, 2), 0);
        CHECK.due("pass", x.gate(2, 3), 1);
        CHECK.due("owed there", x.gate(2, 4), 0);
        CHECK.due("rests at a toll", x.go(2, 1), 0);
        CHECK.due("owed there", x.gate(1, 4), 3);
        x.wind(1, 2);
        CHECK.due("in a wind", x.go(1, 1), 0);
        CHECK.due("owed then", x.gate(1, 4), 6);
        CHECK.due("passed in all", x.count(3), 3);
        CHECK.due("owed in all", x.count(4), 11);
        CHECK.due("worn in all", x.count(5), 8);
    }

    private static void wornOut() {
        SoundToll x = Check.made("g01,g00", "a");
        for (int times = 0; times < 99; times++) {
            CHECK.due("go " + times, x.go(0, 0), times == 0 ? 1 : 0);
        }
        CHECK.due("worn", x.worn(0, 0), 99);
        CHECK.due("owed", x.gate(0, 4), 98);
        CHECK.still(x, "go 100", () -> x.go(0, 0), SoundToll.FULL);
        CHECK.due("elsewhere", x.go(0, 1), 1);
        Check.write(x, 0, "a");
        CHECK.due("a new one", x.go(0, 0), 1);
    }

    private static SoundToll goneOnce() {
        SoundToll x = Check.made("g01,b02", "ab", "", "c");
        x.go(0, 0);
        Check.spell(x, "g0");
        return x;
    }

    private static void refused() {
        for (int gate : NO_GATE) {
            SoundToll x = goneOnce();
            for (int what : new int[] {0, 8, 9, -1}) {
                CHECK.still(x, "gate(" + gate + ", " + what + ")", () -> x.gate(gate, what), SoundToll.UNKNOWN);
                CHECK.still(x, "as(" + gate + ", " + what + ")", () -> x.as(gate, what), SoundToll.UNKNOWN);
                CHECK.still(x, "wind(" + gate + ", " + what + ")", () -> x.wind(gate, what), SoundToll.UNKNOWN);
            }
            CHECK.still(x, "toll(" + gate + ", 0)", () -> x.toll(gate, 0), SoundToll.UNKNOWN);
            CHECK.still(x, "toll(" + gate + ", 100)", () -> x.toll(gate, 100), SoundToll.UNKNOWN);
            ofTwo(x, 0, gate);
        }
        for (int book : NO_BOOK) {
            ofTwo(goneOnce(), book, 0);
            ofTwo(goneOnce(), book, 2);
        }
        SoundToll x = goneOnce();
        for (int out : new int[] {-1, 100, 9, Integer.MIN_VALUE, Integer.MAX_VALUE}) {
            CHECK.still(x, "gate(0, " + out + ")", () -> x.gate(0, out), SoundToll.OUTSIDE);
            CHECK.still(x, "wind(0, " + out + ")", () -> x.wind(0, out), SoundToll.OUTSIDE);
            CHECK.still(x, "as(0, " + out + ")", () -> x.as(0, out), SoundToll.OUTSIDE);
        }
        CHECK.still(x, "wind(1, 7)", () -> x.wind(1, 7), SoundToll.OUTSIDE);
        for (int out : new int[] {-1, 100, Integer.MIN_VALUE, Integer.MAX_VALUE}) {
            CHECK.still(x, "toll(1, " + out + ")", () -> x.toll(1, out), SoundToll.OUTSIDE);
        }
    }

    /** The calls of a BOOK and a GATE, one of which names nothing. */
    private static void ofTwo(SoundToll x, int book, int gate) {
        String of = "(" + book + ", " + gate + ")";
        CHECK.still(x, "pays" + of, () -> x.pays(book, gate), SoundToll.UNKNOWN);
        CHECK.still(x, "worn" + of, () -> x.worn(book, gate), SoundToll.UNKNOWN);
        CHECK.still(x, "go" + of, () -> x.go(book, gate), SoundToll.UNKNOWN);
        CHECK.still(x, "shortest" + of, () -> x.shortest(book, gate), SoundToll.UNKNOWN);
        CHECK.still(x, "see" + of, () -> x.see(book, gate, true), SoundToll.UNKNOWN);
        CHECK.still(x, "not see" + of, () -> x.see(book, gate, false), SoundToll.UNKNOWN);
    }

    private static void noRoad() {
        SoundToll x = Check.made("", "ab");
        for (int gate = -1; gate < 5; gate++) {
            int at = gate;
            CHECK.still(x, "gate", () -> x.gate(at, 0), SoundToll.UNKNOWN);
            CHECK.still(x, "as", () -> x.as(at, 0), SoundToll.UNKNOWN);
            CHECK.still(x, "wind", () -> x.wind(at, 0), SoundToll.UNKNOWN);
            CHECK.still(x, "toll", () -> x.toll(at, 0), SoundToll.UNKNOWN);
            ofTwo(x, 0, gate);
        }
    }
}
