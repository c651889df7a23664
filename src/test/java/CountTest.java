/** Promise 29: count. */
public final class CountTest {
    private static final Check CHECK = new Check();

    public static void main(String[] args) {
        SoundToll x = Check.made("g02,c05,b04", "ab(cg)", "", "ag.g");
        counts(x, 3, 2, 7, 0, 0, 0, 6, 0, 0, 1, 2);
        x.go(0, 0);
        x.go(2, 1);
        x.go(2, 1);
        x.go(2, 1);
        counts(x, 3, 2, 7, 2, 3, 4, 5, 0, 0, 1, 2);
        x.go(2, 0);
        x.go(2, 0);
        counts(x, 3, 2, 7, 4, 3, 6, 4, 0, 0, 1, 2);
        x.see(0, 0, true);
        x.see(0, 1, true);
        Check.spell(x, "xyz");
        counts(x, 3, 2, 7, 4, 3, 6, 4, 2, 3, 1, 2);
        x.burn(0);
        counts(x, 3, 1, 4, 4, 3, 5, 1, 2, 3, 1, 2);
        x.wind(1, 1);
        x.toll(0, 1);
        counts(x, 3, 1, 4, 4, 3, 5, 3, 2, 3, 1, 2);
        Check.write(x, 3, "2[a]");
        Check.write(x, 3, "2[");
        counts(x, 3, 2, 6, 4, 3, 5, 5, 2, 2, 1, 3);
        Check.write(x, 0, "a");
        CHECK.due("a book of one beat", x.count(1), 3);
        x.burn(0);
        x.forget();
        Check.lay(x, "g00,g00,g00,g99");
        counts(x, 4, 2, 6, 0, 0, 0, 6, 0, 0, 2, 4);
        for (int what : new int[] {-1, 11, Integer.MIN_VALUE, Integer.MAX_VALUE}) {
            CHECK.still(x, "count(" + what + ")", () -> x.count(what), SoundToll.OUTSIDE);
        }
        CHECK.end();
    }

    private static void counts(SoundToll x, int... want) {
        for (int what = 0; what <= 10; what++) {
            int asked = what;
            CHECK.still(x, "count(" + what + ")", () -> x.count(asked), want[what]);
        }
    }
}
