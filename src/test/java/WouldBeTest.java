/** Promises 21 to 23: shortest, higher, send. */
public final class WouldBeTest {
    private static final Check CHECK = new Check();

    public static void main(String[] args) {
        shortest();
        higher();
        sends();
        sendOfLikeOnes();
        sendRefused();
        CHECK.end();
    }

    private static void shortest() {
        SoundToll x = Check.made("g03,c04,d04,b05", "ab.(cd)", ".");
        CHECK.due("at a gate", x.shortest(0, 0), 4);
        CHECK.due("at a cart", x.shortest(0, 1), 2);
        CHECK.due("at a deaf one", x.shortest(0, 2), -1);
        CHECK.due("at a bell", x.shortest(0, 3), 4);
        CHECK.due("of a rest", x.shortest(1, 0), -1);
        x.toll(0, 0);
        CHECK.due("with none", x.shortest(0, 0), 0);
        CHECK.due("of a rest with none", x.shortest(1, 0), 0);
        x.toll(0, 1);
        CHECK.due("with one", x.shortest(0, 0), 1);
        x.toll(2, 2);
        CHECK.due("a deaf one hears the first", x.shortest(0, 2), 1);
        x.toll(2, 3);
        CHECK.due("and no more", x.shortest(0, 2), -1);
        x.go(0, 0);
        CHECK.due("worn", x.shortest(0, 0), 2);
        x.go(0, 0);
        CHECK.due("worn twice", x.shortest(0, 0), 4);
        x.toll(0, 0);
        CHECK.due("worn, no toll", x.shortest(0, 0), 0);
        x.toll(0, 3);
        CHECK.due("worn out", x.shortest(0, 0), -1);
        x.wind(1, 1);
        CHECK.due("in a wind", x.shortest(0, 1), 2);
        x.wind(1, 2);
        CHECK.due("in a stronger one", x.shortest(0, 1), 2);
        x.wind(1, 3);
        CHECK.due("in the strongest", x.shortest(0, 1), 4);
        SoundToll y = Check.made("s06,g60", "a.g", "4[3[abcde]]");
        CHECK.still(y, "climbs", () -> y.shortest(0, 0), 3);
        CHECK.due("all of it", y.shortest(1, 1), 60);
        y.go(1, 1);
        CHECK.due("all but one", y.shortest(1, 1), -1);
    }

    private static void higher(SoundToll x, int book, int by, int many) {
        CHECK.still(x, "higher by", () -> x.higher(book, 0), by);
        CHECK.still(x, "higher at", () -> x.higher(book, 1), many);
    }

    private static void higher() {
        SoundToll x = Check.made("c03,c03,g01", "a", "d", ".", "(ad)");
        higher(x, 0, 0, 3);
        higher(x, 1, 4, 3);
        higher(x, 2, 0, 0);
        higher(x, 3, 0, 3);
        x.wind(0, 1);
        higher(x, 1, 4, 3);
        higher(x, 0, 0, 3);
        x.wind(0, 3);
        higher(x, 0, 0, 2);
        x.wind(0, 6);
        higher(x, 0, 1, 3);
        x.toll(0, 5);
        higher(x, 0, 0, 2);
        SoundToll y = Check.made("s06,s06", "fga");
        higher(y, 0, 0, 2);
        y.toll(0, 8);
        higher(y, 0, 0, 2);
        y.toll(0, 9);
        higher(y, 0, 0, 1);
        y.go(0, 1);
        y.go(0, 1);
        higher(y, 0, 0, 1);
        y.go(0, 1);
        higher(y, 0, 0, 0);
        SoundToll z = Check.made("c04,c04", "dc");
        higher(z, 0, 0, 2);
        z.go(0, 0);
        higher(z, 0, 5, 2);
        for (int what : new int[] {2, -1, Integer.MIN_VALUE, Integer.MAX_VALUE}) {
            CHECK.still(x, "higher what " + what, () -> x.higher(0, what), SoundToll.OUTSIDE);
        }
        for (int book : new int[] {1, 4, -1, Integer.MAX_VALUE}) {
            CHECK.still(y, "higher book " + book, () -> y.higher(book, 0), SoundToll.UNKNOWN);
            CHECK.still(y, "higher book " + book, () -> y.higher(book, 2), SoundToll.UNKNOWN);
        }
        SoundToll none = Check.made("", "a");
        CHECK.still(none, "higher, no road", () -> none.higher(0, 0), SoundToll.STATE);
        CHECK.still(none, "higher, no road", () -> none.higher(0, 1), SoundToll.STATE);
        CHECK.still(none, "higher what, no road", () -> none.higher(0, 2), SoundToll.OUTSIDE);
        CHECK.still(none, "higher book, no road", () -> none.higher(1, 0), SoundToll.UNKNOWN);
    }

    private static void sent(SoundToll x, int... want) {
        int[] asked = {0, 1, 10, 11, 12, 13};
        for (int row = 0; row < 6; row++) {
            int what = asked[row];
            CHECK.still(x, "send(" + what + ")", () -> x.send(what), want[row]);
        }
    }

    private static void sends() {
        sent(Check.made("g00,g00"), 0, 0, -1, -1, -1, -1);
        sent(Check.made("g01,g02", "."), 0, 0, -1, -1, -1, -1);
        sent(Check.made("g01,g03", "aaaa"), 1, 1, 1, -1, -1, -1);
        sent(Check.made("g01,g03", "aaaa", "bbbb"), 2, 4, 0, 1, -1, -1);
        sent(Check.made("g03,g01", "aaaa", "b"), 2, 1, 0, 1, -1, -1);
        sent(Check.made("g02,g02,g02,g02", "aaaa", "bb", "b", "ccc"), 3, 3, 0, 1, -1, 2);
        sent(Check.made("g02,g02", "aaaa", "bb", "", "ccc"), 2, 1, -1, 0, -1, 1);
        sent(Check.made("g04,g03,g02,g01", "a", "aa", "aaa", "aaaa"), 4, 0, 3, 2, 1, 0);
        SoundToll x = Check.made("g01,g02", "ab", "a");
        sent(x, 2, 0, 1, 0, -1, -1);
        x.go(0, 1);
        sent(x, 1, 0, -1, 0, -1, -1);
        x.toll(1, 1);
        sent(x, 2, 0, 1, 0, -1, -1);
        x.burn(1);
        sent(x, 1, 0, 1, -1, -1, -1);
        SoundToll y = Check.made("c03,g01", "d", "a");
        sent(y, 2, 0, 1, 0, -1, -1);
        y.wind(0, 4);
        sent(y, 2, 0, 0, 1, -1, -1);
    }

    private static void sendOfLikeOnes() {
        sent(Check.made("g01,g01", "a"), 1, 0, 0, -1, -1, -1);
        sent(Check.made("g01,g01", "a", "a", "a"), 2, 0, -1, 0, 1, -1);
        sent(Check.made("g01,g01", "a", "a", "a", "a"), 2, 0, -1, -1, 0, 1);
        sent(Check.made("g01,g02,g01", "aa", "aa"), 2, 1, 0, 1, -1, -1);
        sent(Check.made("g00,g00,g00", ".", ".", ".", "."), 3, 0, -1, 0, 1, 2);
        sent(Check.made("g00,g00,g00,g00", ".", ".", ".", "."), 4, 0, 0, 1, 2, 3);
    }

    private static void sendRefused() {
        SoundToll x = Check.made("g01,g02", "ab", "a");
        SoundToll none = Check.made("", "ab", "a");
        for (int what : new int[] {2, 9, 14, -1, 3, Integer.MIN_VALUE, Integer.MAX_VALUE}) {
            CHECK.still(x, "send(" + what + ")", () -> x.send(what), SoundToll.OUTSIDE);
            CHECK.still(none, "send(" + what + "), no road", () -> none.send(what), SoundToll.OUTSIDE);
        }
        for (int what : new int[] {0, 1, 10, 11, 12, 13}) {
            CHECK.still(none, "send(" + what + "), no road", () -> none.send(what), SoundToll.STATE);
        }
    }
}
