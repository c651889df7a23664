/** Objects in the states that tests need, made anew each time, so that no test finds what another one left. */
final class Scenes {
    interface Scene {
        SoundToll made();
    }

    interface Call {
        long on(SoundToll x);
    }

    /** What told() tells, in its order. */
    static final String[] TOLD = {"digest", "fault", "tuneFault", "restore", "digest of the image"};
    static final int EMPTY_BOOK = 2;

    private Scenes() {
    }

    /** With three GATES; all there is differs from what it is at first, and most of it from the IMAGE. */
    static SoundToll busy() {
        SoundToll x = Check.made("g02,c05,b04", "ab(cg)", "<<ag.g>>", "", "2[d]");
        x.go(0, 0);
        x.go(1, 1);
        x.go(1, 1);
        x.wind(1, 5);
        x.toll(2, 3);
        x.see(0, 0, true);
        x.see(1, 1, false);
        x.image();
        x.go(0, 2);
        x.go(3, 0);
        x.wind(0, 1);
        x.toll(1, 4);
        x.see(3, 2, false);
        Check.spell(x, "g0");
        return x;
    }

    /** Busy, with a text on THE PAGE. */
    static SoundToll busy(String page) {
        SoundToll x = busy();
        x.blank();
        Check.spell(x, page);
        return x;
    }

    /** No ROAD was ever read; there are TUNES, and letters on THE PAGE. */
    static SoundToll roadless() {
        SoundToll x = Check.made("", "ab(cg)", "<<ag.g>>", "", "2[d]");
        Check.spell(x, "g0");
        return x;
    }

    /** A new object with a text on THE PAGE. */
    static SoundToll spelt(String page) {
        SoundToll x = new SoundToll();
        Check.spell(x, page);
        return x;
    }

    /** All that shows how an object stands; it goes on from its IMAGE then, so it is done with. */
    static long[] told(SoundToll x) {
        return new long[] {x.digest(), x.fault(), x.tuneFault(), x.restore(), x.digest()};
    }
}
