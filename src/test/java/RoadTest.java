/** Promise 6: road. */
public final class RoadTest {
    private static final Check CHECK = new Check();

    public static void main(String[] args) {
        roads();
        noRoads();
        anotherRoad();
        CHECK.end();
    }

    private static void roads() {
        CHECK.due("two gates", Check.lay(new SoundToll(), "g00,c99"), 2);
        CHECK.due("three gates", Check.lay(new SoundToll(), "d01,s10,b37"), 3);
        SoundToll x = new SoundToll();
        CHECK.due("four gates", Check.lay(x, "d01,s10,b37,c99"), 4);
        CHECK.due("page is empty", x.count(8), 0);
        CHECK.due("blank", x.blank(), 0);
        int[] kinds = {2, 3, 4, 1};
        int[] tolls = {1, 10, 37, 99};
        for (int gate = 0; gate < 4; gate++) {
            CHECK.due("kind of " + gate, x.gate(gate, 0), kinds[gate]);
            CHECK.due("toll of " + gate, x.gate(gate, 1), tolls[gate]);
            CHECK.due("wind of " + gate, x.gate(gate, 2), 0);
            CHECK.due("tolls of " + gate, x.gate(gate, 5), 100);
        }
        CHECK.due("gate kind", Check.made("b00,g00").gate(1, 0), 0);
    }

    private static void noRoad(String text) {
        SoundToll x = Check.made("c05,d06", "ab");
        x.image();
        x.go(0, 0);
        Check.spell(x, text);
        CHECK.still(x, "road of " + text, x::road, SoundToll.STATE);
        CHECK.due("the image stays", x.restore(), 0);
        SoundToll none = new SoundToll();
        Check.spell(none, text);
        CHECK.still(none, "road of " + text, none::road, SoundToll.STATE);
    }

    private static void noRoads() {
        noRoad("");
        noRoad("g");
        noRoad("g00");
        noRoad("g00,");
        noRoad("g00,g0");
        noRoad("g00,g00,");
        noRoad("g00,g00,g00,g00,");
        noRoad("g00,g00,g00,g00,g00");
        noRoad("g00,g00x");
        noRoad("g00,g0x");
        noRoad("ab");
    }

    private static void anotherRoad() {
        SoundToll x = Check.made("c05,d06,b09", "abc", "g");
        x.go(0, 0);
        x.go(1, 0);
        x.wind(1, 3);
        x.toll(2, 50);
        x.see(0, 0, true);
        x.image();
        CHECK.due("of the same text", Check.lay(x, "c05,d06,b09"), 3);
        for (int gate = 0; gate < 3; gate++) {
            CHECK.due("wind", x.gate(gate, 2), 0);
            CHECK.due("passed", x.gate(gate, 3), 0);
            CHECK.due("owed", x.gate(gate, 4), 0);
            CHECK.due("tolls", x.gate(gate, 5), 100);
            CHECK.due("worn 0", x.worn(0, gate), 0);
            CHECK.due("worn 1", x.worn(1, gate), 0);
        }
        CHECK.due("toll", x.gate(2, 1), 9);
        CHECK.due("seen", x.count(7), 0);
        CHECK.due("forget", x.forget(), 0);
        CHECK.due("the image is gone", x.restore(), SoundToll.STATE);
        CHECK.due("tune 0 stays", x.tune(0, 0), 3);
        CHECK.due("tune 1 stays", x.tune(1, 0), 1);
        CHECK.due("roads", x.count(9), 2);
        CHECK.due("fewer gates", Check.lay(x, "s00,s00"), 2);
        CHECK.due("the third gate is gone", x.gate(2, 0), SoundToll.UNKNOWN);
        CHECK.due("its worn, too", x.worn(0, 2), SoundToll.UNKNOWN);
        CHECK.due("another kind", x.gate(0, 0), 3);
        x.go(0, 1);
        CHECK.due("more gates", Check.lay(x, "g01,g02,g03,g04"), 4);
        CHECK.due("worn", x.count(5), 0);
        CHECK.due("passed", x.count(3), 0);
    }
}
