/** What binds all calls: the numbers of refusals, which is the first, that they change nothing; and 512 calls. */
final class RefusalEdges extends Edges {
    private static final int MIN = Integer.MIN_VALUE, MAX = Integer.MAX_VALUE;
    private static final int CALLS = 512;
    /** What is asked of every number of every call: at the edges of what the document tells, and far off. */
    private static final int[] NUMBERS = {MIN, -1, 0, 1, 2, 3, 4, 6, 7, 9, 10, 13, 14, 31, 60, 61, 99, 100, 127, MAX};

    /** A call with two of its numbers left open, or fewer, if it has no more. */
    private interface OfTwo {
        long on(SoundToll x, int one, int other);
    }

    private record Asked(String name, OfTwo call) {
    }

    private static final Asked[] ASKED = {
        new Asked("letter", (x, a, b) -> x.letter(a)),
        new Asked("road", (x, a, b) -> x.road()),
        new Asked("write", (x, a, b) -> x.write(a)),
        new Asked("burn", (x, a, b) -> x.burn(a)),
        new Asked("tune", (x, a, b) -> x.tune(a, b)),
        new Asked("beat", (x, a, b) -> x.beat(a, b)),
        new Asked("apart", (x, a, b) -> x.apart(a, b)),
        new Asked("alike", (x, a, b) -> x.alike(a, b, 0)),
        new Asked("alike what", (x, a, b) -> x.alike(a, 0, b)),
        new Asked("often", (x, a, b) -> x.often(a, b)),
        new Asked("gate", (x, a, b) -> x.gate(a, b)),
        new Asked("as", (x, a, b) -> x.as(a, b)),
        new Asked("pays", (x, a, b) -> x.pays(a, b)),
        new Asked("worn", (x, a, b) -> x.worn(a, b)),
        new Asked("wind", (x, a, b) -> x.wind(a, b)),
        new Asked("toll", (x, a, b) -> x.toll(a, b)),
        new Asked("go", (x, a, b) -> x.go(a, b)),
        new Asked("shortest", (x, a, b) -> x.shortest(a, b)),
        new Asked("higher", (x, a, b) -> x.higher(a, b)),
        new Asked("send", (x, a, b) -> x.send(a)),
        new Asked("see", (x, a, b) -> x.see(a, b, true)),
        new Asked("not see", (x, a, b) -> x.see(a, b, false)),
        new Asked("fairs", (x, a, b) -> x.fairs(a, b, 2)),
        new Asked("fairs what", (x, a, b) -> x.fairs(a, 1, b)),
        new Asked("image", (x, a, b) -> x.image()),
        new Asked("restore", (x, a, b) -> x.restore()),
        new Asked("count", (x, a, b) -> x.count(a))};

    RefusalEdges(Sentences doc) {
        super(doc);
    }

    @Override
    void hold() {
        section("The public face", "public static final int NONE = -1, UNKNOWN = -101, OUTSIDE = -102, STATE = -103, "
                + "FULL = -104;", this::numbers);
        section("What it is", "An object is used for at most 512 calls after it has been made", this::lastCalls);
        term("Refusals, of several the first as told by each call:", this::theFirstOfSeveral);
        term("UNKNOWN (a number names nothing), OUTSIDE (it is not as told), STATE (as told), FULL;", this::each);
        term("they change nothing.", this::changeNothing);
    }

    private void numbers() {
        due("NONE", SoundToll.NONE, -1);
        due("UNKNOWN", SoundToll.UNKNOWN, -101);
        due("OUTSIDE", SoundToll.OUTSIDE, -102);
        due("STATE", SoundToll.STATE, -103);
        due("FULL", SoundToll.FULL, -104);
    }

    private void each() {
        still(Scenes::busy, "pays(4, 0)", x -> x.pays(4, 0), -101);
        still(Scenes::busy, "pays(0, 3)", x -> x.pays(0, 3), -101);
        still(Scenes::busy, "toll(0, 100)", x -> x.toll(0, 100), -102);
        still(Scenes::busy, "letter(31)", x -> x.letter(31), -102);
        still(Scenes::busy, "road()", SoundToll::road, -103);
        still(Scenes::busy, "burn(2)", x -> x.burn(2), -103);
        still(RefusalEdges::full, "letter('a')", x -> x.letter('a'), -104);
        still(RefusalEdges::full, "see(0, 0, true)", x -> x.see(0, 0, true), -104);
        still(RefusalEdges::full, "go(0, 0)", x -> x.go(0, 0), -104);
        still(RefusalEdges::full, "write(0)", x -> x.write(0), -104);
    }

    /** THE PAGE is full of a TUNE that is too long, 8 are SEEN, a TUNE is WORN 99 times; there is an IMAGE. */
    private static SoundToll full() {
        SoundToll x = Check.made("g01,c02,d03", "ab", "c");
        for (int seen = 0; seen < 8; seen++) {
            x.see(0, seen % 3, true);
        }
        x.image();
        for (int times = 0; times < 99; times++) {
            x.go(0, 0);
        }
        Check.spell(x, "4[".repeat(13) + "a" + "]".repeat(13));
        return x;
    }

    private void theFirstOfSeveral() {
        still(RefusalEdges::full, "letter(127): OUTSIDE, FULL", x -> x.letter(127), OUTSIDE);
        still(RefusalEdges::full, "write(4): UNKNOWN, FULL", x -> x.write(4), UNKNOWN);
        still(Scenes::busy, "write(4): UNKNOWN, STATE", x -> x.write(4), UNKNOWN);
        still(() -> Scenes.busy("4[4[4[a]]]2["), "write(0): STATE, FULL", x -> x.write(0), STATE);
        still(Scenes::busy, "tune(2, 9): UNKNOWN, OUTSIDE", x -> x.tune(2, 9), UNKNOWN);
        still(Scenes::busy, "alike(0, 2, 2): UNKNOWN, OUTSIDE", x -> x.alike(0, 2, 2), UNKNOWN);
        still(Scenes::busy, "gate(3, 9): UNKNOWN, OUTSIDE", x -> x.gate(3, 9), UNKNOWN);
        still(Scenes::busy, "as(3, 5): UNKNOWN, OUTSIDE", x -> x.as(3, 5), UNKNOWN);
        still(Scenes::busy, "wind(3, 7): UNKNOWN, OUTSIDE", x -> x.wind(3, 7), UNKNOWN);
        still(Scenes::busy, "toll(3, 100): UNKNOWN, OUTSIDE", x -> x.toll(3, 100), UNKNOWN);
        still(Scenes::roadless, "higher(2, 2): UNKNOWN, OUTSIDE, STATE", x -> x.higher(2, 2), UNKNOWN);
        still(Scenes::roadless, "higher(2, 0): UNKNOWN, STATE", x -> x.higher(2, 0), UNKNOWN);
        still(Scenes::roadless, "higher(0, 2): OUTSIDE, STATE", x -> x.higher(0, 2), OUTSIDE);
        still(Scenes::roadless, "send(2): OUTSIDE, STATE", x -> x.send(2), OUTSIDE);
        still(RefusalEdges::full, "see(2, 0, true): UNKNOWN, FULL", x -> x.see(2, 0, true), UNKNOWN);
        still(RefusalEdges::full, "see(0, 3, true): UNKNOWN, FULL", x -> x.see(0, 3, true), UNKNOWN);
        still(Scenes::roadless, "fairs(0, 0, 0): OUTSIDE, STATE", x -> x.fairs(0, 0, 0), OUTSIDE);
        still(Scenes::roadless, "fairs(1, -1, 0): OUTSIDE, STATE", x -> x.fairs(1, -1, 0), OUTSIDE);
        still(Scenes::roadless, "fairs(1, 0, 3): OUTSIDE, STATE", x -> x.fairs(1, 0, 3), OUTSIDE);
    }

    private void changeNothing() {
        Scenes.Scene[] scenes = {SoundToll::new, Scenes::roadless, Scenes::busy, RefusalEdges::full};
        for (Scenes.Scene scene : scenes) {
            long[] asItWas = Scenes.told(scene.made());
            for (Asked call : ASKED) {
                for (int one : NUMBERS) {
                    for (int other : NUMBERS) {
                        refusedChangesNothing(scene, call, one, other, asItWas);
                    }
                }
            }
        }
    }

    private void refusedChangesNothing(Scenes.Scene scene, Asked call, int one, int other, long[] asItWas) {
        SoundToll x = scene.made();
        long answer = call.call.on(x, one, other);
        String of = call.name + " of " + one + ", " + other;
        boolean refused = answer <= UNKNOWN && answer >= FULL;
        due(of + " answers " + answer + ", a refusal or not below -1", refused || answer >= NONE ? 1 : 0, 1);
        if (refused) {
            long[] told = Scenes.told(x);
            for (int row = 0; row < told.length; row++) {
                due(of + ", refused: " + Scenes.TOLD[row], told[row], asItWas[row]);
            }
        }
    }

    /** As many calls are made on it as are left ahead of the last one. */
    private static SoundToll before(int last) {
        SoundToll x = Check.made("g01,c02", "ab", "c");
        int made = 1 + 7 + 1 + 1 + 2 + 1 + 1 + 1 + 1;
        for (int call = made; call < last - 1; call++) {
            x.wind(1, call % 7);
        }
        return x;
    }

    private void lastCalls() {
        SoundToll early = before(CALLS - 7 * 70);
        for (Asked call : ASKED) {
            for (int one = 0; one < 2; one++) {
                String of = call.name + " of " + one + ", 1 as the last call";
                due(of, call.call.on(before(CALLS), one, 1), call.call.on(before(CALLS - 7 * 70), one, 1));
            }
        }
        due("digest() as the last call", before(CALLS).digest(), early.digest());
        due("fault() as the last call", before(CALLS).fault(), 0);
        due("tuneFault() as the last call", before(CALLS).tuneFault(), 0);
        due("blank() as the last call", before(CALLS).blank(), 0);
        due("forget() as the last call", before(CALLS).forget(), 0);
        goesAllAlong();
        letters();
    }

    /** All calls but the first thirteen are spent on going: so many PASS and are WORN, and no more. */
    private void goesAllAlong() {
        SoundToll x = Check.made("g00,g01", "ab");
        int calls = 13;
        int passed = 0;
        while (calls < CALLS - 4) {
            int gate = calls % 2;
            long paid = x.go(0, gate);
            passed += paid >= gate ? 1 : 0;
            calls++;
        }
        due("count(5) as call 509", x.count(5), 198);
        due("count(3) as call 510", x.count(3), passed);
        due("worn(0, 1) as call 511", x.worn(0, 1), 99);
        due("go(0, 0) as call 512", x.go(0, 0), FULL);
    }

    private void letters() {
        SoundToll x = new SoundToll();
        for (int call = 1; call <= CALLS; call++) {
            if (call % 41 == 0) {
                due("blank() as call " + call, x.blank(), 40);
            } else {
                due("letter('a') as call " + call, x.letter('a'), call % 41);
            }
        }
    }
}
