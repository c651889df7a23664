/** What binds all calls: the numbers of refusals, which is the first, that they change nothing; and 512 calls. */
final class RefusalEdges extends Edges {
    private static final int MIN = Integer.MIN_VALUE, MAX = Integer.MAX_VALUE;
    private static final int CALLS = 512;
    /** What is asked of every number of every call: at the edges of what the document tells, and far off. */
    private static final int[] NUMBERS = {MIN, -1, 0, 1, 2, 3, 4, 6, 7, 9, 10, 13, 14, 31, 60, 61, 99, 100, 127, MAX};

    RefusalEdges(Sentences doc) {
        super(doc);
    }

    @Override
    void hold() {
        section("The public face", "public static final int NONE = -1, UNKNOWN = -101, OUTSIDE = -102, STATE = -103, "
                + "FULL = -104;", this::numbers);
        section("What it is", "An object is used for at most 512 calls after it has been made", this::lastCalls);
        term("Refusals, of several the first as told by each call:", this::theFirstOfSeveral);
        term("UNKNOWN (a number names nothing), OUTSIDE (it is not as told), STATE (as told), FULL;", this::each);
        term("they change nothing.", this::changeNothing);
    }

    private void numbers() {
        due("NONE", SoundToll.NONE, -1);
        due("UNKNOWN", SoundToll.UNKNOWN, -101);
        due("OUTSIDE", SoundToll.OUTSIDE, -102);
        due("STATE", SoundToll.STATE, -103);
        due("FULL", SoundToll.FULL, -104);
    }

    private void each() {
        still(Scenes::busy, "pays(4, 0)", x -> x.pays(4, 0), -101);
        still(Scenes::busy, "pays(0, 3)", x -> x.pays(0, 3), -101);
        still(Scenes::busy, "toll(0, 100)", x -> x.toll(0, 100), -102);
        still(Scenes::busy, "letter(31)", x -> x.letter(31), -102);
        still(Scenes::busy, "road()", SoundToll::road, -103);
        still(Scenes::busy, "burn(2)", x -> x.burn(2), -103);
        still(RefusalEdges::full, "letter('a')", x -> x.letter('a'), -104);
        still(RefusalEdges::full, "see(0, 0, true)", x -> x.see(0, 0, true), -104);
        still(RefusalEdges::full, "go(0, 0)", x -> x.go(0, 0), -104);
        still(RefusalEdges::full, "write(0)", x -> x.write(0), -104);
    }

    /** THE PAGE is full of a TUNE that is too long, 8 are SEEN, a TUNE is WORN 99 times; there is an IMAGE. */
    private static SoundToll full() {
        SoundToll x = Check.made("g01,c02,d03", "ab", "c");
        for (int seen = 0; seen < 8; seen++) {
            x.see(0, seen % 3, true);
        }
        x.image();
        for (int times = 0; times < 99; times++) {
            x.go(0, 0);
        }
        Check.spell(x, "4[".repeat(13) + "a" + "]".repeat(13));
        return x;
    }

    private void first(Scenes.Scene scene, String call, Scenes.Call asked, int want) {
        still(scene, call, asked, want);
    }

    private void theFirstOfSeveral() {
        first(RefusalEdges::full, "letter(127): OUTSIDE, FULL", x -> x.letter(127), OUTSIDE);
        first(RefusalEdges::full, "write(4): UNKNOWN, FULL", x -> x.write(4), UNKNOWN);
        first(Scenes::busy, "write(4): UNKNOWN, STATE", x -> x.write(4), UNKNOWN);
        first(() -> Scenes.busy("4[4[4[a]]]2["), "write(0): STATE, FULL", x -> x.write(0), STATE);
        first(Scenes::busy, "tune(2, 9): UNKNOWN, OUTSIDE", x -> x.tune(2, 9), UNKNOWN);
        first(Scenes::busy, "alike(0, 2, 2): UNKNOWN, OUTSIDE", x -> x.alike(0, 2, 2), UNKNOWN);
        first(Scenes::busy, "gate(3, 9): UNKNOWN, OUTSIDE", x -> x.gate(3, 9), UNKNOWN);
        first(Scenes::busy, "as(3, 5): UNKNOWN, OUTSIDE", x -> x.as(3, 5), UNKNOWN);
        first(Scenes::busy, "wind(3, 7): UNKNOWN, OUTSIDE", x -> x.wind(3, 7), UNKNOWN);
        first(Scenes::busy, "toll(3, 100): UNKNOWN, OUTSIDE", x -> x.toll(3, 100), UNKNOWN);
        first(Scenes::roadless, "higher(2, 2): UNKNOWN, OUTSIDE, STATE", x -> x.higher(2, 2), UNKNOWN);
        first(Scenes::roadless, "higher(2, 0): UNKNOWN, STATE", x -> x.higher(2, 0), UNKNOWN);
        first(Scenes::roadless, "higher(0, 2): OUTSIDE, STATE", x -> x.higher(0, 2), OUTSIDE);
        first(Scenes::roadless, "send(2): OUTSIDE, STATE", x -> x.send(2), OUTSIDE);
        first(RefusalEdges::full, "see(2, 0, true): UNKNOWN, FULL", x -> x.see(2, 0, true), UNKNOWN);
        first(RefusalEdges::full, "see(0, 3, true): UNKNOWN, FULL", x -> x.see(0, 3, true), UNKNOWN);
        first(Scenes::roadless, "fairs(0, 0, 0): OUTSIDE, STATE", x -> x.fairs(0, 0, 0), OUTSIDE);
        first(Scenes::roadless, "fairs(1, -1, 0): OUTSIDE, STATE", x -> x.fairs(1, -1, 0), OUTSIDE);
        first(Scenes::roadless, "fairs(1, 0, 3): OUTSIDE, STATE", x -> x.fairs(1, 0, 3), OUTSIDE);
    }

    /** A call with two numbers; who takes fewer leaves the second out, who takes more has it twice. */
    private interface OfTwo {
        long on(SoundToll x, int one, int other);
    }

    private static final String[] NAMES = {"letter", "road", "write", "burn", "tune", "beat", "apart", "alike",
        "alike what", "often", "gate", "as", "pays", "worn", "wind", "toll", "go", "shortest", "higher", "send", "see",
        "not see", "fairs", "fairs what", "image", "restore", "count"};
    private static final OfTwo[] CHANGING = {(x, a, b) -> x.letter(a), (x, a, b) -> x.road(), (x, a, b) -> x.write(a),
        (x, a, b) -> x.burn(a), (x, a, b) -> x.tune(a, b), (x, a, b) -> x.beat(a, b), (x, a, b) -> x.apart(a, b),
        (x, a, b) -> x.alike(a, b, 0), (x, a, b) -> x.alike(a, 0, b), (x, a, b) -> x.often(a, b),
        (x, a, b) -> x.gate(a, b), (x, a, b) -> x.as(a, b), (x, a, b) -> x.pays(a, b), (x, a, b) -> x.worn(a, b),
        (x, a, b) -> x.wind(a, b), (x, a, b) -> x.toll(a, b), (x, a, b) -> x.go(a, b), (x, a, b) -> x.shortest(a, b),
        (x, a, b) -> x.higher(a, b), (x, a, b) -> x.send(a), (x, a, b) -> x.see(a, b, true),
        (x, a, b) -> x.see(a, b, false), (x, a, b) -> x.fairs(a, b, 2), (x, a, b) -> x.fairs(a, 1, b),
        (x, a, b) -> x.image(), (x, a, b) -> x.restore(), (x, a, b) -> x.count(a)};

    private void changeNothing() {
        Scenes.Scene[] scenes = {SoundToll::new, Scenes::roadless, Scenes::busy, RefusalEdges::full};
        for (Scenes.Scene scene : scenes) {
            long[] asItWas = Scenes.told(scene.made());
            for (int call = 0; call < NAMES.length; call++) {
                for (int one : NUMBERS) {
                    for (int other : NUMBERS) {
                        refusedChangesNothing(scene, call, one, other, asItWas);
                    }
                }
            }
        }
    }

    private void refusedChangesNothing(Scenes.Scene scene, int call, int one, int other, long[] asItWas) {
        SoundToll x = scene.made();
        long answer = CHANGING[call].on(x, one, other);
        String of = NAMES[call] + " of " + one + ", " + other;
        due(of + " answers " + answer + ", which tells something", answer >= NONE || answer <= UNKNOWN && answer >= FULL
                ? 1 : 0, 1);
        if (answer < NONE) {
            long[] told = Scenes.told(x);
            for (int row = 0; row < told.length; row++) {
                due(of + ", refused: " + Scenes.TOLD[row], told[row], asItWas[row]);
            }
        }
    }

    /** As many calls are made on it as are left ahead of the last one. */
    private static SoundToll before(int last) {
        SoundToll x = Check.made("g01,c02", "ab", "c");
        int made = 1 + 7 + 1 + 1 + 2 + 1 + 1 + 1 + 1;
        for (int call = made; call < last - 1; call++) {
            x.wind(1, call % 7);
        }
        return x;
    }

    private void lastCalls() {
        SoundToll early = before(CALLS - 7 * 70);
        for (int call = 0; call < NAMES.length; call++) {
            for (int one = 0; one < 2; one++) {
                String of = NAMES[call] + " of " + one + ", 1 as the last call";
                due(of, CHANGING[call].on(before(CALLS), one, 1), CHANGING[call].on(before(CALLS - 7 * 70), one, 1));
            }
        }
        due("digest() as the last call", before(CALLS).digest(), early.digest());
        due("fault() as the last call", before(CALLS).fault(), 0);
        due("tuneFault() as the last call", before(CALLS).tuneFault(), 0);
        due("blank() as the last call", before(CALLS).blank(), 0);
        due("forget() as the last call", before(CALLS).forget(), 0);
        goesAllAlong();
        letters();
    }

    /** All calls but the first thirteen are spent on going: so many PASS and are WORN, and no more. */
    private void goesAllAlong() {
        SoundToll x = Check.made("g00,g01", "ab");
        int calls = 13;
        int passed = 0;
        while (calls < CALLS - 4) {
            int gate = calls % 2;
            long paid = x.go(0, gate);
            passed += paid >= gate ? 1 : 0;
            calls++;
        }
        due("count(5) as call 509", x.count(5), 198);
        due("count(3) as call 510", x.count(3), passed);
        due("worn(0, 1) as call 511", x.worn(0, 1), 99);
        due("go(0, 0) as call 512", x.go(0, 0), FULL);
    }

    private void letters() {
        SoundToll x = new SoundToll();
        for (int call = 1; call <= CALLS; call++) {
            if (call % 41 == 0) {
                due("blank() as call " + call, x.blank(), 40);
            } else {
                due("letter('a') as call " + call, x.letter('a'), call % 41);
            }
        }
    }
}
