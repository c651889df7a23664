/** What the Terms tell of APART, ALIKE and OFTEN, and promises 11 to 13. */
final class LikenessEdges extends Edges {
    private static final String SIXTY = "4[3[abcde]]";

    LikenessEdges(Sentences doc) {
        super(doc);
    }

    @Override
    void hold() {
        term("APART: how many BEATS to put in, to take out, or to change, at least, "
                + "so that one TUNE is as another one.", this::leastChanges);
        term("ALIKE: the longest run of BEATS, one right behind the other, that two TUNES have both: how many",
                this::longestRun);
        term("that two TUNES have both: how many", this::oneBehindTheOther);
        term("from which BEAT of the first TUNE on: the least.", this::leastStart);
        term("OFTEN: how often all of a TUNE is found in another one, from one BEAT on, or from another one.",
                this::everyStart);
        promise(11, "APART.", this::apart);
        promise(11, "UNKNOWN: a, b (BOOKS, not empty).", this::apartUnknown);
        promise(12, "ALIKE: what = 0 how many", this::alikeMany);
        promise(12, "1 from which BEAT on (NONE: none are).", this::alikeFrom);
        promise(12, "UNKNOWN: a, b", this::alikeUnknown);
        promise(12, "OUTSIDE.", this::alikeOutside);
        promise(13, "OFTEN: how often all of TUNE b is found in TUNE a.", this::often);
        promise(13, "UNKNOWN: a, b.", this::oftenUnknown);
    }

    private static Scenes.Scene both(String one, String other) {
        return () -> Check.made("", one, "", "", other);
    }

    private void apart(String one, String other, int want) {
        still(both(one, other), "apart(0, 3) of " + one + " and " + other, x -> x.apart(0, 3), want);
        still(both(one, other), "apart(3, 0) of " + one + " and " + other, x -> x.apart(3, 0), want);
    }

    private void alike(String one, String other, int many, int from) {
        still(both(one, other), "alike(0, 3, 0) of " + one + " and " + other, x -> x.alike(0, 3, 0), many);
        still(both(one, other), "alike(0, 3, 1) of " + one + " and " + other, x -> x.alike(0, 3, 1), from);
    }

    private void often(String one, String other, int want) {
        still(both(one, other), "often(0, 3) of " + one + " and " + other, x -> x.often(0, 3), want);
    }

    private void leastChanges() {
        apart("a", "a", 0);
        apart("a", "b", 1);
        apart("a", ".", 1);
        apart("a", "(ab)", 1);
        apart("a", "ab", 1);
        apart("b", "ab", 1);
        apart("ab", "ba", 2);
        apart("abc", "bcd", 2);
        apart("abcdef", "bcdefa", 2);
        apart("abc", "def", 3);
        apart("a.b.c", "abc", 2);
        apart("a", ".a", 1);
        apart("a", "a.", 1);
        apart(".a", "a.", 2);
        apart(".ab", "b", 2);
        apart("abcd", "acbd", 2);
        apart("aabbcc", "abc", 3);
        apart("gaadecf", "dadeacfg", 4);
    }

    private void apart() {
        apart(SIXTY, SIXTY, 0);
        apart(SIXTY, "a", 59);
        apart(SIXTY, "g", 60);
        apart(SIXTY, "4[3[.....]]", 60);
        apart(SIXTY, "<" + SIXTY + ">", 48);
        apart("4[4[aaa]]aaaaaaaaaaab", "b4[4[aaa]]aaaaaaaaaaa", 2);
        still(Scenes::busy, "apart(0, 0)", x -> x.apart(0, 0), 0);
        still(Scenes::busy, "apart(3, 3)", x -> x.apart(3, 3), 0);
        still(Scenes::busy, "apart(0, 3)", x -> x.apart(0, 3), 3);
    }

    private void longestRun() {
        alike("a", "a", 1, 0);
        alike("a", "b", 0, NONE);
        alike("a", "(ab)", 0, NONE);
        alike("a.b", "ab", 1, 0);
        alike("a", ".a", 1, 0);
        alike("a", "a.", 1, 0);
        alike("a", ".", 0, NONE);
        alike(".a", "a.", 1, 0);
        alike("a.", "b.a", 1, 0);
        alike("ab.", "b.", 2, 1);
        alike("abcde", "bcdea", 4, 1);
        alike("abcabcd", "cabcd", 5, 2);
        alike("abcd", "acbd", 1, 0);
        alike("aab", "abaab", 3, 0);
        alike("ababc", "abc", 3, 2);
    }

    /** What is asked ahead of it makes no difference. */
    private void oneBehindTheOther() {
        SoundToll x = Check.made("", "abc", "a", "gfedcba", "4[3[abcde]]");
        int[][] apart = {{0, 2, 6, 57}, {2, 0, 6, 59}, {6, 6, 0, 55}, {57, 59, 55, 0}};
        int[][] alike = {{3, 1, 1, 3}, {1, 1, 1, 1}, {1, 1, 7, 1}, {3, 1, 1, 60}};
        int[][] from = {{0, 0, 0, 0}, {0, 0, 0, 0}, {4, 6, 0, 2}, {0, 0, 0, 0}};
        for (int a = 3; a >= 0; a--) {
            for (int b = 0; b < 4; b++) {
                String of = "(" + a + ", " + b + ")";
                due("apart" + of, x.apart(a, b), apart[a][b]);
                due("alike" + of, x.alike(a, b, 0), alike[a][b]);
                due("alike from" + of, x.alike(a, b, 1), from[a][b]);
                due("apart" + of + " again", x.apart(a, b), apart[a][b]);
            }
        }
    }

    private void leastStart() {
        alike("ab.ab", "ab", 2, 0);
        alike("cab.ab", "ab", 2, 1);
        alike("ab.cd", "cd(ab)ab", 2, 0);
        alike("cd.ab", "cd(ab)ab", 2, 0);
        alike("a.cd.ab", "ab(ab)cd", 2, 2);
        alike("aaa", "a", 1, 0);
        alike("baaa", "aa", 2, 1);
        alike("gfa", "ag", 1, 0);
    }

    private void alikeMany() {
        alike(SIXTY, SIXTY, 60, 0);
        alike(SIXTY, "4[3[fffff]]", 0, NONE);
        alike(SIXTY, "4[3[bcdea]]", 59, 1);
        alike("4[3[bcdea]]", SIXTY, 59, 0);
        still(Scenes::busy, "alike(0, 0, 0)", x -> x.alike(0, 0, 0), 3);
        still(Scenes::busy, "alike(0, 3, 0)", x -> x.alike(0, 3, 0), 0);
    }

    private void alikeFrom() {
        alike("a", "a", 1, 0);
        alike("a", "b", 0, NONE);
        alike("ga", "ab", 1, 1);
        alike("4[4[ggg]]ggggggggggga", "a", 1, 59);
        alike("a", "4[4[ggg]]ggggggggggga", 1, 0);
        still(Scenes::busy, "alike(1, 1, 1)", x -> x.alike(1, 1, 1), 0);
        still(Scenes::busy, "alike(0, 3, 1)", x -> x.alike(0, 3, 1), NONE);
    }

    private void everyStart() {
        often("a", "a", 1);
        often("a", "b", 0);
        often("aaa", "aa", 2);
        often("ababa", "aba", 2);
        often("abab", "ab", 2);
        often("ab", "aba", 0);
        often("aba", "ab", 1);
        often("cab", "ab", 1);
        often("a.b", "ab", 0);
        often("(ab)", "a", 0);
        often("a..b", ".", 2);
        often("abcd", "abce", 0);
        often("abcd", "ebcd", 0);
    }

    private void often() {
        often("4[3[aaaaa]]", "a", 60);
        often("4[3[aaaaa]]", "aa", 59);
        often("4[3[aaaaa]]", "4[4[aaa]]aaaaaaaaaaa", 2);
        often("4[3[aaaaa]]", "4[3[aaaaa]]", 1);
        often("4[4[aaa]]aaaaaaaaaaa", "4[3[aaaaa]]", 0);
        often("ab", "a", 1);
        often("a", "ab", 0);
        still(Scenes::busy, "often(0, 0)", x -> x.often(0, 0), 1);
        still(Scenes::busy, "often(3, 3)", x -> x.often(3, 3), 1);
    }

    private void apartUnknown() {
        refusesNoBook("apart(.., 0)", (x, book) -> x.apart(book, 0));
        refusesNoBook("apart(3, ..)", (x, book) -> x.apart(3, book));
        refusesNoBook("apart(.., ..)", (x, book) -> x.apart(book, book));
        refuses(SoundToll::new, "apart", (x, book) -> x.apart(book, book), UNKNOWN, 0, 1, 2, 3);
    }

    private void alikeUnknown() {
        for (int what : new int[] {0, 1, -1, 2}) {
            refusesNoBook("alike(.., 0, " + what + ")", (x, book) -> x.alike(book, 0, what));
            refusesNoBook("alike(3, .., " + what + ")", (x, book) -> x.alike(3, book, what));
            refusesNoBook("alike(.., .., " + what + ")", (x, book) -> x.alike(book, book, what));
        }
        refuses(SoundToll::new, "alike", (x, book) -> x.alike(book, book, 0), UNKNOWN, 0, 1, 2, 3);
    }

    private void alikeOutside() {
        refuses(Scenes::busy, "alike(0, 1, ..)", (x, what) -> x.alike(0, 1, what), OUTSIDE, beyond(0, 1));
        refuses(Scenes::busy, "alike(3, 3, ..)", (x, what) -> x.alike(3, 3, what), OUTSIDE, beyond(0, 1));
    }

    private void oftenUnknown() {
        refusesNoBook("often(.., 0)", (x, book) -> x.often(book, 0));
        refusesNoBook("often(3, ..)", (x, book) -> x.often(3, book));
        refusesNoBook("often(.., ..)", (x, book) -> x.often(book, book));
        refuses(SoundToll::new, "often", (x, book) -> x.often(book, book), UNKNOWN, 0, 1, 2, 3);
    }
}
