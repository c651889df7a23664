/** What the Terms tell of SEEN, TOLLS and TRY, promise 14 as to these, and promises 24 and 25: see, forget. */
final class SeenEdges extends Edges {
    private static final int MANY = 5, LEAST = 6, GREATEST = 7, TRY = 8;

    SeenEdges(Sentences doc) {
        super(doc);
    }

    @Override
    void hold() {
        term("SEEN (8 at most): that one who PAYS as much as the TUNE of a BOOK does at a GATE when it is SEEN, PASSED "
                + "there, where the TOLL is not known, or did not.", this::seenAsItWas);
        term("TOLLS (0 to 99) as can be, so that all that is SEEN there is so: how many; the least; the greatest.",
                this::tollsAsCanBe);
        term("TRY for a GATE: with the TUNE of which BOOK to go there, so that fewest of these are left at worst:",
                this::fewestLeft);
        term("of like ones the least;", this::leastOfLikeOnes);
        term("none, if there are none, or all BOOKS are empty.", this::nothingToTry);
        promise(14, "5 how many TOLLS, 6 the least, 7 the greatest (NONE for both: there are none)", this::tollsTold);
        promise(14, "8 TRY (NONE).", this::tryTold);
        promise(24, "It is SEEN: how much is.", this::howMuchIsSeen);
        promise(24, "UNKNOWN: book (also if it is empty), gate", this::seeUnknown);
        promise(24, "FULL.", this::seeFull);
        promise(25, "Nothing is SEEN any more: how much was.", this::forgets);
    }

    private void tolls(SoundToll x, int gate, int many, int least, int greatest) {
        due("gate(" + gate + ", 5)", x.gate(gate, MANY), many);
        due("gate(" + gate + ", 6)", x.gate(gate, LEAST), least);
        due("gate(" + gate + ", 7)", x.gate(gate, GREATEST), greatest);
    }

    /** The TOLLS of gate 0 where one who PAYS so much has PASSED there, or has not. */
    private void seenOnce(String tune, int worn, boolean passed, int many, int least, int greatest) {
        SoundToll x = Check.made("c50,g50", tune);
        for (int time = 0; time < worn; time++) {
            x.go(0, 0);
        }
        due("see of " + tune + " worn " + worn + (passed ? ", passed" : ", did not"), x.see(0, 0, passed), 1);
        tolls(x, 0, many, least, greatest);
        tolls(x, 1, 100, 0, 99);
    }

    private void tollsAsCanBe() {
        tolls(Check.made("c50,g50", "a"), 0, 100, 0, 99);
        seenOnce(".", 0, true, 1, 0, 0);
        seenOnce(".", 0, false, 99, 1, 99);
        seenOnce("d", 0, true, 2, 0, 1);
        seenOnce("d", 0, false, 98, 2, 99);
        String hundred = "4[4[aa]]ad";
        seenOnce(hundred, 2, false, 1, 99, 99);
        seenOnce(hundred, 2, true, 99, 0, 98);
        seenOnce(hundred, 1, false, 0, NONE, NONE);
        seenOnce(hundred, 1, true, 100, 0, 99);
        seenOnce(hundred, 0, false, 0, NONE, NONE);
        seenOnce(hundred, 0, true, 100, 0, 99);
        seenOnce("4[3[(abc)(abc)(abc)(abc)(abc)]]", 0, true, 100, 0, 99);
        seenOnce("4[3[(abc)(abc)(abc)(abc)(abc)]]", 0, false, 0, NONE, NONE);
    }

    private void tollsTold() {
        SoundToll x = Check.made("g00,g99", "a", "aa", "aaa", "aaaa");
        x.see(3, 1, true);
        tolls(x, 1, 5, 0, 4);
        x.see(0, 1, false);
        tolls(x, 1, 3, 2, 4);
        x.see(1, 1, false);
        tolls(x, 1, 2, 3, 4);
        x.see(0, 1, false);
        tolls(x, 1, 2, 3, 4);
        x.see(2, 1, true);
        tolls(x, 1, 1, 3, 3);
        x.see(3, 1, true);
        tolls(x, 1, 1, 3, 3);
        x.see(2, 1, false);
        tolls(x, 1, 0, NONE, NONE);
        tolls(x, 0, 100, 0, 99);
        x.see(3, 0, false);
        x.toll(0, 3);
        tolls(x, 0, 95, 5, 99);
        for (int what = MANY; what <= GREATEST; what++) {
            int asked = what;
            int[] want = {99, 1, 99};
            still(() -> notPassed("."), "gate(0, " + what + ")", y -> y.gate(0, asked), want[what - MANY]);
        }
    }

    /** With one who was SEEN not to PASS at GATE 0. */
    private static SoundToll notPassed(String tune) {
        SoundToll x = Check.made("g00,g00", tune);
        x.see(0, 0, false);
        return x;
    }

    private void seenAsItWas() {
        SoundToll x = Check.made("c99,g00", "ab", "d");
        x.see(0, 0, true);
        tolls(x, 0, 7, 0, 6);
        x.wind(0, 3);
        x.go(0, 0);
        x.toll(0, 50);
        tolls(x, 0, 7, 0, 6);
        x.see(0, 0, false);
        tolls(x, 0, 5, 2, 6);
        Check.write(x, 0, "g");
        x.burn(1);
        tolls(x, 0, 5, 2, 6);
        due("nobody went", x.gate(1, 3) + x.gate(1, 4), 0);
        due("count(7)", x.count(7), 2);
        for (int seen = 3; seen <= 8; seen++) {
            due("see", x.see(0, 1, true), seen);
        }
        due("see a ninth", x.see(0, 1, true), FULL);
    }

    private void tries(SoundToll x, int gate, int want) {
        due("gate(" + gate + ", 8)", x.gate(gate, TRY), want);
    }

    private void fewestLeft() {
        String fortyEight = "4[4[aaa]]";
        tries(Check.made("g00,g00", "a", fortyEight, fortyEight + "a", fortyEight + "aa"), 0, 2);
        tries(Check.made("g00,g00", fortyEight + "a", fortyEight, "a"), 0, 0);
        tries(Check.made("g00,g00", ".", "", "", "a"), 0, 3);
        tries(Check.made("c00,g00", "ddd", "cc"), 0, 1);
        tries(Check.made("c00,g00", "ddd", "cc"), 1, 0);
        SoundToll x = Check.made("g00,g00", "aaaaaaaaa", "aaaa", "a", "aa");
        tries(x, 0, 0);
        x.see(0, 0, true);
        tries(x, 0, 1);
        x.see(2, 0, false);
        tries(x, 0, 1);
        x.see(1, 0, true);
        due("2 to 4", x.gate(0, MANY), 3);
        tries(x, 0, 3);
        tries(x, 1, 0);
        x.go(1, 0);
        tries(x, 0, 1);
        x.go(1, 0);
        x.go(1, 0);
        tries(x, 0, 3);
        eachGateByItself();
        SoundToll y = Check.made("c00,g00", "a", "g");
        tries(y, 0, 0);
        y.wind(0, 3);
        tries(y, 0, 1);
    }

    /** What is SEEN at one GATE tells nothing of another one. */
    private void eachGateByItself() {
        for (int gate = 0; gate < 2; gate++) {
            int other = 1 - gate;
            SoundToll x = Check.made("g00,g00", "aaaaaaaaa", "aaaa", "a", "aa");
            x.see(0, gate, true);
            tries(x, gate, 1);
            tries(x, other, 0);
            x.see(1, gate, false);
            due("5 to 9", x.gate(gate, MANY), 5);
            tries(x, gate, 0);
            x.see(2, other, false);
            x.see(1, other, true);
            due("2 to 4", x.gate(other, MANY), 3);
            tries(x, other, 3);
            tries(x, gate, 0);
            Check.write(x, 3, "aaaaaaa");
            tries(x, gate, 3);
            tries(x, other, 0);
            x.see(0, gate, false);
            due("none", x.gate(gate, MANY), 0);
            tries(x, gate, NONE);
            tries(x, other, 0);
        }
    }

    private void leastOfLikeOnes() {
        String fortyEight = "4[4[aaa]]";
        tries(Check.made("g00,g00", "a", "a"), 0, 0);
        tries(Check.made("g00,g00", "", "a", "b", "c"), 0, 1);
        tries(Check.made("g00,g00", "", "", fortyEight, fortyEight + "aa"), 0, 2);
        tries(Check.made("g00,g00", "", "", fortyEight + "aa", fortyEight), 0, 2);
        farBelowIsLikeFarAbove();
        SoundToll x = Check.made("g00,g00", "aaaa", "a", ".", "aa");
        x.see(3, 0, false);
        x.see(0, 0, true);
        tries(x, 1, 0);
        due("3 and 4", x.gate(0, MANY), 2);
        tries(x, 0, 0);
        Check.write(x, 2, "aaa");
        tries(x, 0, 2);
        x.see(2, 0, true);
        due("3", x.gate(0, MANY), 1);
        tries(x, 0, 0);
    }

    /** Who PAYS less than all TOLLS that are left, or more, leaves all of them, however much less or more it is. */
    private void farBelowIsLikeFarAbove() {
        String[][] tunes = {{".", "ccccc", "bb", "ddd"}, {"4[4[a]]", ".", "bb", "ddd"}, {".", "a", "bb", "ddd"}};
        for (String[] row : tunes) {
            SoundToll x = Check.made("g00,g00", row);
            x.see(2, 0, false);
            x.see(3, 0, true);
            due("3", x.gate(0, MANY), 1);
            tries(x, 0, 0);
            x.forget();
            x.see(2, 0, false);
            x.go(3, 0);
            x.see(3, 0, true);
            due("none", x.gate(0, MANY), 0);
            tries(x, 0, NONE);
        }
    }

    private void nothingToTry() {
        tries(Check.made("g00,g00"), 0, NONE);
        SoundToll x = Check.made("g00,g00", "a");
        tries(x, 0, 0);
        x.see(0, 0, false);
        tries(x, 0, 0);
        x.see(0, 0, true);
        due("no toll is left", x.gate(0, MANY), 0);
        tries(x, 0, NONE);
        tries(x, 1, 0);
        x.burn(0);
        tries(x, 0, NONE);
        tries(x, 1, NONE);
        x.forget();
        tries(x, 0, NONE);
        Check.write(x, 3, ".");
        tries(x, 0, 3);
    }

    private void tryTold() {
        still(() -> Check.made("g00,g00", "", "", "", "."), "gate(1, 8)", x -> x.gate(1, TRY), 3);
        still(() -> Check.made("g00,g00", "."), "gate(0, 8)", x -> x.gate(0, TRY), 0);
        still(() -> Check.made("g00,g00"), "gate(0, 8)", x -> x.gate(0, TRY), NONE);
        Scenes.Scene none = () -> {
            SoundToll x = notPassed("a");
            x.see(0, 0, true);
            return x;
        };
        still(none, "gate(0, 8) where no toll can be", x -> x.gate(0, TRY), NONE);
    }

    private void howMuchIsSeen() {
        SoundToll x = Check.made("g00,g00", "a", "b");
        due("seen at first", x.count(7), 0);
        for (int seen = 1; seen <= 8; seen++) {
            due("see " + seen, x.see(seen % 2, seen / 2 % 2, seen % 3 == 0), seen);
            due("count(7)", x.count(7), seen);
        }
        due("nobody passed", x.count(3), 0);
        due("nothing is worn", x.count(5), 0);
        due("see in the object that is busy", Scenes.busy().see(0, 2, true), 4);
    }

    private void seeUnknown() {
        for (boolean passed : new boolean[] {true, false}) {
            refusesNoBook("see(.., 0, " + passed + ")", (x, book) -> x.see(book, 0, passed));
            refusesNoGate("see(0, .., " + passed + ")", (x, gate) -> x.see(0, gate, passed));
            refusesNoGate("see(3, .., " + passed + ")", (x, gate) -> x.see(3, gate, passed));
        }
        refuses(SeenEdges::full, "see where it is full", (x, book) -> x.see(book, 0, true), UNKNOWN, -1, 2, 4);
        refuses(SeenEdges::full, "see where it is full", (x, gate) -> x.see(0, gate, true), UNKNOWN, -1, 2, 4);
        due("see(3, 2, true)", Scenes.busy().see(3, 2, true), 4);
    }

    /** As much as can be is SEEN: at GATE 0 that 5 PASSED, at GATE 1 that 5 did not. */
    private static SoundToll full() {
        SoundToll x = Check.made("g00,g00", "aaaaa", "a");
        for (int seen = 0; seen < 8; seen++) {
            x.see(0, seen % 2, seen % 2 == 0);
        }
        return x;
    }

    private void seeFull() {
        for (int gate = 0; gate < 2; gate++) {
            int at = gate;
            refuses(SeenEdges::full, "see that one passed at " + gate, (x, book) -> x.see(book, at, true), FULL, 0, 1);
            refuses(SeenEdges::full, "see that none did at " + gate, (x, book) -> x.see(book, at, false), FULL, 0, 1);
        }
        SoundToll x = full();
        tolls(x, 0, 6, 0, 5);
        tolls(x, 1, 94, 6, 99);
        due("see a ninth", x.see(1, 0, false), FULL);
        due("count(7)", x.count(7), 8);
        due("forget()", x.forget(), 8);
        due("see behind it", x.see(1, 0, false), 1);
    }

    private void forgets() {
        still(SoundToll::new, "forget() of a new object", SoundToll::forget, 0);
        still(() -> Check.made("g00,g00", "a"), "forget() of nothing", SoundToll::forget, 0);
        SoundToll x = notPassed("a");
        due("forget() of one", x.forget(), 1);
        tolls(x, 0, 100, 0, 99);
        due("count(7)", x.count(7), 0);
        due("forget() again", x.forget(), 0);
        x = full();
        due("forget() of eight", x.forget(), 8);
        tolls(x, 0, 100, 0, 99);
        tolls(x, 1, 100, 0, 99);
        due("forget() in the object that is busy", Scenes.busy().forget(), 3);
    }
}
