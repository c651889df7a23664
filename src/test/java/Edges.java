/** Tests of one part of the document: each is put down with the promise and the words that it holds. */
abstract class Edges {
    static final int NONE = SoundToll.NONE;
    static final int UNKNOWN = SoundToll.UNKNOWN;
    static final int OUTSIDE = SoundToll.OUTSIDE;
    static final int STATE = SoundToll.STATE;
    static final int FULL = SoundToll.FULL;

    /** What names no BOOK: just beyond 0 to 3, and far off. */
    static final int[] NO_BOOK = {-1, 4, Integer.MIN_VALUE, Integer.MAX_VALUE};
    /** What names no GATE of a ROAD of three. */
    static final int[] NO_GATE = {-1, 3, Integer.MIN_VALUE, Integer.MAX_VALUE};

    /** A call with one number left open. */
    interface OfOne {
        long on(SoundToll x, int number);
    }

    private final Sentences doc;

    Edges(Sentences doc) {
        this.doc = doc;
    }

    /** Runs all its tests. */
    abstract void hold();

    void term(String words, Sentences.Test test) {
        doc.holds(Sentences.TERMS, words, test);
    }

    void promise(int number, String words, Sentences.Test test) {
        doc.holds(Sentences.promise(number), words, test);
    }

    void section(String where, String words, Sentences.Test test) {
        doc.holds(where, words, test);
    }

    void due(String call, long got, long want) {
        doc.due(call, got, want);
    }

    /** The call answers so much, and an object that it was made on is as one that it was not made on. */
    void still(Scenes.Scene scene, String call, Scenes.Call asked, long want) {
        SoundToll x = scene.made();
        due(call, asked.on(x), want);
        unchanged(call, x, scene.made());
    }

    private void unchanged(String call, SoundToll x, SoundToll asItWas) {
        long[] got = Scenes.told(x);
        long[] want = Scenes.told(asItWas);
        for (int row = 0; row < want.length; row++) {
            due(call + " changes nothing: " + Scenes.TOLD[row] + " behind it", got[row], want[row]);
        }
    }

    /** Each of these numbers is refused with this, and changes nothing. */
    void refuses(Scenes.Scene scene, String call, OfOne asked, int want, int... numbers) {
        for (int number : numbers) {
            still(scene, call + " with " + number, x -> asked.on(x, number), want);
        }
    }

    /** Just beyond a range, and far off. */
    static int[] beyond(int least, int most) {
        return new int[] {least - 1, most + 1, Integer.MIN_VALUE, Integer.MAX_VALUE};
    }

    /** No BOOK, and an empty one, of the object that is busy. */
    void refusesNoBook(String call, OfOne asked) {
        refuses(Scenes::busy, call + ", book", asked, UNKNOWN, NO_BOOK);
        refuses(Scenes::busy, call + ", empty book", asked, UNKNOWN, Scenes.EMPTY_BOOK);
    }

    /** No GATE of the object that is busy, and none at all where there is no ROAD. */
    void refusesNoGate(String call, OfOne asked) {
        refuses(Scenes::busy, call + ", gate", asked, UNKNOWN, NO_GATE);
        refuses(Scenes::roadless, call + ", gate without a road", asked, UNKNOWN, -1, 0, 1, 3, 4);
    }
}
