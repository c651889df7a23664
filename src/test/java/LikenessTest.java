/** Promises 11 to 13: apart, alike, often. */
public final class LikenessTest {
    private static final Check CHECK = new Check();

    public static void main(String[] args) {
        apart("a", "a", 0);
        apart("a", "b", 1);
        apart("abc", "abc", 0);
        apart("abc", "ab", 1);
        apart("abc", "bc", 1);
        apart("abc", "axc".replace('x', 'd'), 1);
        apart("abc", "bca", 2);
        apart("abcd", "dcba", 4);
        apart("ab.cd", "abcd", 1);
        apart("(ab)c", "ac", 1);
        apart("abcdefg", "bdf", 4);
        apart("gaadecf", "dadeacfg", 4);
        apart("4[3[abcde]]", "a", 59);
        apart("4[3[abcde]]", "4[3[fffff]]", 60);
        apart("2[ab]", "2[ba]", 2);
        apart("a", ".", 1);
        apart("a", ".a", 1);
        apart("a", "a.", 1);
        apart(".ab", "b", 2);
        alike("a", "a", 1, 0);
        alike("a", "b", 0, -1);
        alike("a", "a.", 1, 0);
        alike("a", ".a", 1, 0);
        alike("a.", "b.a", 1, 0);
        alike("abcd", "bc", 2, 1);
        alike("bc", "abcd", 2, 0);
        alike("abxab".replace('x', 'd'), "ab", 2, 0);
        alike("dabcab", "abcab", 5, 1);
        alike("cabdabc", "abc", 3, 4);
        alike("abc", "cba", 1, 0);
        alike("dcba", "abc", 1, 1);
        alike("aaaa", "aa", 2, 0);
        alike("(ab)a", "ab", 1, 1);
        alike("g..a", "a..b", 2, 1);
        alike("abfcd", "cdgab", 2, 0);
        alike("cdgab", "abfcd", 2, 0);
        alike("4[3[abcde]]", "<4[3[edcba]]>", 60, 0);
        often("a", "a", 1);
        often("a", "aa", 0);
        often("aaaa", "aa", 3);
        often("ababa", "aba", 2);
        often("abcabc", "bc", 2);
        often("abcabc", "bca", 1);
        often("ab", "ba", 0);
        often("(ab)ab", "ab", 1);
        often("....", ".", 4);
        often("a.a", ".", 1);
        often("4[3[aaaaa]]", "a", 60);
        often("4[3[aaaaa]]", "4[3[aaaaa]]", 1);
        oneBehindTheOther();
        refused();
        CHECK.end();
    }

    private static void apart(String one, String other, int want) {
        SoundToll x = Check.made("", one, other);
        CHECK.still(x, "apart " + one + " " + other, () -> x.apart(0, 1), want);
        CHECK.still(x, "apart " + other + " " + one, () -> x.apart(1, 0), want);
        CHECK.due("apart " + one + " itself", x.apart(0, 0), 0);
    }

    private static void alike(String one, String other, int many, int from) {
        SoundToll x = Check.made("", "", one, "", other);
        CHECK.still(x, "alike " + one + " " + other, () -> x.alike(1, 3, 0), many);
        CHECK.still(x, "alike from " + one + " " + other, () -> x.alike(1, 3, 1), from);
        CHECK.due("alike itself", x.alike(1, 1, 0), x.tune(1, 0));
        CHECK.due("alike itself from", x.alike(1, 1, 1), 0);
    }

    private static void often(String one, String other, int want) {
        SoundToll x = Check.made("", "", "", one, other);
        CHECK.still(x, "often " + one + " " + other, () -> x.often(2, 3), want);
        CHECK.due("often itself", x.often(2, 2), 1);
    }

    private static void oneBehindTheOther() {
        SoundToll x = Check.made("", "abc", "a", "gfedcba", "ddd");
        int[][] alike = {{3, 1, 1, 0}, {1, 1, 1, 0}, {1, 1, 7, 1}, {0, 0, 1, 3}};
        for (int a = 0; a < 4; a++) {
            for (int b = 0; b < 4; b++) {
                int apart = x.apart(a, b);
                int many = x.alike(a, b, 0);
                CHECK.due("apart " + a + " " + b, apart, x.apart(b, a));
                CHECK.due("alike " + a + " " + b, many, alike[a][b]);
                CHECK.due("alike again", x.alike(a, b, 0), many);
            }
        }
    }

    private static void refused() {
        SoundToll x = Check.made("", "ab", "b");
        for (int book : new int[] {2, 3, 4, -1, Integer.MIN_VALUE, Integer.MAX_VALUE}) {
            CHECK.still(x, "apart a " + book, () -> x.apart(book, 0), SoundToll.UNKNOWN);
            CHECK.still(x, "apart b " + book, () -> x.apart(0, book), SoundToll.UNKNOWN);
            CHECK.still(x, "alike a " + book, () -> x.alike(book, 0, 0), SoundToll.UNKNOWN);
            CHECK.still(x, "alike b " + book, () -> x.alike(0, book, 1), SoundToll.UNKNOWN);
            CHECK.still(x, "alike a ahead of what " + book, () -> x.alike(book, 0, 2), SoundToll.UNKNOWN);
            CHECK.still(x, "alike b ahead of what " + book, () -> x.alike(0, book, -1), SoundToll.UNKNOWN);
            CHECK.still(x, "often a " + book, () -> x.often(book, 0), SoundToll.UNKNOWN);
            CHECK.still(x, "often b " + book, () -> x.often(0, book), SoundToll.UNKNOWN);
        }
        CHECK.still(x, "alike what 2", () -> x.alike(0, 1, 2), SoundToll.OUTSIDE);
        CHECK.still(x, "alike what -1", () -> x.alike(0, 1, -1), SoundToll.OUTSIDE);
        x.burn(1);
        CHECK.due("burnt", x.apart(0, 1), SoundToll.UNKNOWN);
    }
}
