/** Promise 30: digest, made once more from what the other calls answer. */
public final class DigestTest {
    private static final Check CHECK = new Check();
    private static long h;

    public static void main(String[] args) {
        digests(new SoundToll(), "");
        digests(new SoundToll(), "x~ !");
        digests(Check.made("", "ab", "", "c"), "");
        digests(Check.made("g00,c12"), "");
        SoundToll x = Check.made("d03,s04,b05,c06", "abc", "2[<a.(bg)>]", "", "....");
        digests(x, "");
        x.go(0, 1);
        x.go(1, 2);
        x.wind(2, 6);
        x.see(1, 2, false);
        x.see(3, 0, true);
        digests(x, "g01");
        CHECK.due("twice", x.digest(), x.digest());
        CHECK.end();
    }

    private static void add(long it) {
        h = 31 * h + it;
    }

    private static void digests(SoundToll x, String page) {
        x.blank();
        Check.spell(x, page);
        h = 1109;
        for (int book = 0; book < 4; book++) {
            int beats = x.tune(book, 0);
            if (beats == SoundToll.UNKNOWN) {
                add(SoundToll.NONE);
            } else {
                addBook(x, book, beats);
            }
        }
        for (int gate = 0; gate < x.count(0); gate++) {
            for (int what = 0; what <= 8; what++) {
                add(x.gate(gate, what));
            }
        }
        if (x.count(0) > 0) {
            for (int what : new int[] {0, 1, 10, 11, 12, 13}) {
                add(x.send(what));
            }
        }
        for (int place = 0; place < page.length(); place++) {
            add(page.charAt(place));
        }
        for (int what = 0; what <= 10; what++) {
            add(x.count(what));
        }
        CHECK.due("digest", x.digest(), h);
    }

    private static void addBook(SoundToll x, int book, int beats) {
        add(beats);
        for (int what = 1; what <= 8; what++) {
            add(x.tune(book, what));
        }
        for (int beat = 0; beat < beats; beat++) {
            add(x.beat(book, beat));
        }
        for (int gate = 0; gate < x.count(0); gate++) {
            add(x.pays(book, gate));
            add(x.worn(book, gate));
            add(x.shortest(book, gate));
        }
    }
}
