/** Promises 14 (TOLLS and TRY), 24 and 25: see, forget. */
public final class SeenTest {
    private static final Check CHECK = new Check();

    public static void main(String[] args) {
        tolls();
        asItWas();
        tries();
        full();
        CHECK.end();
    }

    private static void tolls(SoundToll x, int gate, int many, int least, int greatest) {
        CHECK.still(x, "tolls", () -> x.gate(gate, 5), many);
        CHECK.still(x, "least", () -> x.gate(gate, 6), least);
        CHECK.still(x, "greatest", () -> x.gate(gate, 7), greatest);
    }

    private static void tolls() {
        SoundToll x = Check.made("g50,g50,s00", "abc", "2[4[aaa]]", "4[3[gagag]]", ".");
        tolls(x, 0, 100, 0, 99);
        CHECK.due("see", x.see(0, 0, false), 1);
        tolls(x, 0, 96, 4, 99);
        tolls(x, 1, 100, 0, 99);
        CHECK.due("see", x.see(1, 0, true), 2);
        tolls(x, 0, 21, 4, 24);
        CHECK.due("see less", x.see(3, 0, false), 3);
        tolls(x, 0, 21, 4, 24);
        CHECK.due("see more", x.see(2, 0, true), 4);
        tolls(x, 0, 21, 4, 24);
        CHECK.due("the toll is another one", x.gate(0, 1), 50);
        CHECK.due("see that it is none", x.see(0, 0, true), 5);
        tolls(x, 0, 0, -1, -1);
        tolls(x, 1, 100, 0, 99);
        CHECK.due("see more than any toll", x.see(2, 2, true), 6);
        tolls(x, 2, 100, 0, 99);
        CHECK.due("see nothing pass", x.see(3, 2, true), 7);
        tolls(x, 2, 1, 0, 0);
        CHECK.due("see more than any toll not pass", x.see(2, 2, false), 8);
        tolls(x, 2, 0, -1, -1);
        CHECK.due("passed", x.count(3), 0);
        CHECK.due("worn", x.count(5), 0);
        CHECK.due("forget", x.forget(), 8);
        CHECK.due("forget again", x.forget(), 0);
        for (int gate = 0; gate < 3; gate++) {
            tolls(x, gate, 100, 0, 99);
        }
        x.toll(0, 0);
        tolls(x, 0, 100, 0, 99);
    }

    private static void asItWas() {
        SoundToll x = Check.made("c50,g50", "ab");
        x.see(0, 0, true);
        x.wind(0, 3);
        x.go(0, 0);
        x.toll(0, 1);
        tolls(x, 0, 7, 0, 6);
        x.see(0, 0, false);
        tolls(x, 0, 5, 2, 6);
        x.burn(0);
        tolls(x, 0, 5, 2, 6);
        Check.write(x, 0, "a");
        tolls(x, 0, 5, 2, 6);
        CHECK.due("seen", x.count(7), 2);
    }

    private static void tries() {
        SoundToll x = Check.made("g00,g00", "a", "4[3[aaaaa]]", "4[3[bbbb]]", "4[3[bbbb]]");
        CHECK.still(x, "try", () -> x.gate(0, 8), 2);
        x.burn(2);
        CHECK.due("try", x.gate(0, 8), 3);
        x.burn(3);
        CHECK.due("try", x.gate(0, 8), 1);
        x.see(1, 0, true);
        CHECK.due("try", x.gate(0, 8), 0);
        CHECK.due("elsewhere", x.gate(1, 8), 1);
        x.see(0, 0, true);
        CHECK.due("two are left", x.gate(0, 5), 2);
        Check.write(x, 2, ".");
        CHECK.due("a rest tells most", x.gate(0, 8), 2);
        x.see(2, 0, false);
        CHECK.due("one is left", x.gate(0, 5), 1);
        CHECK.due("of like ones the least", x.gate(0, 8), 0);
        x.burn(0);
        CHECK.due("of like ones the least", x.gate(0, 8), 1);
        x.see(1, 0, false);
        CHECK.due("none is left", x.gate(0, 8), -1);
        x.burn(1);
        x.burn(2);
        CHECK.due("all are empty", x.gate(1, 8), -1);
        SoundToll z = Check.made("g00,g00", ".", "a", "bb", "ccc");
        z.see(2, 0, false);
        z.see(3, 0, true);
        CHECK.due("one is left", z.gate(0, 5), 1);
        CHECK.due("all leave it, at worst", z.gate(0, 8), 0);
        Check.write(z, 0, "4[4[ddd]]");
        CHECK.due("so does what pays more", z.gate(0, 8), 0);
        z.forget();
        z.see(2, 0, false);
        z.see(0, 0, true);
        CHECK.due("from 3 to 48", z.gate(0, 5), 46);
        CHECK.due("the one within tells", z.gate(0, 8), 3);
        z.burn(3);
        CHECK.due("none of the others does", z.gate(0, 8), 0);
        SoundToll y = Check.made("c00,g00", "dd", "cc");
        CHECK.due("pays most", y.gate(0, 8), 1);
        y.wind(0, 1);
        CHECK.due("in a wind", y.gate(0, 8), 0);
        y.go(0, 0);
        CHECK.due("worn", y.gate(0, 8), 1);
    }

    private static void full() {
        SoundToll x = Check.made("g00,g00", "a", "b");
        for (int seen = 1; seen <= 8; seen++) {
            CHECK.due("see " + seen, x.see(seen % 2, seen / 2 % 2, true), seen);
            CHECK.due("count(7)", x.count(7), seen);
        }
        CHECK.still(x, "see 9", () -> x.see(0, 0, false), SoundToll.FULL);
        CHECK.still(x, "see 9 of no book", () -> x.see(2, 0, false), SoundToll.UNKNOWN);
        CHECK.still(x, "see 9 at no gate", () -> x.see(0, 2, false), SoundToll.UNKNOWN);
        CHECK.due("forget", x.forget(), 8);
        CHECK.due("see", x.see(0, 0, false), 1);
    }
}
