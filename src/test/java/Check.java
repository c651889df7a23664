/** What every test needs: a row of answers that are due, and objects made from texts. */
final class Check {
    interface Call {
        long answer();
    }

    private int wrong;
    private int rows;

    void due(String call, long got, long want) {
        rows++;
        if (got != want) {
            wrong++;
            System.out.println(call + " answered " + got + ", due is " + want);
        }
    }

    /** A call that answers so much, and changes nothing that a digest tells. */
    void still(SoundToll x, String call, Call made, long want) {
        long before = x.digest();
        due(call, made.answer(), want);
        due(call + ", digest", x.digest(), before);
    }

    /** How many answers were looked at. */
    int rows() {
        return rows;
    }

    void end() {
        System.out.println(wrong == 0 ? rows + " answers are as due" : wrong + " of " + rows + " answers are not as due");
        if (wrong != 0 || rows == 0) {
            System.exit(1);
        }
    }

    static void spell(SoundToll x, String text) {
        for (int place = 0; place < text.length(); place++) {
            x.letter(text.charAt(place));
        }
    }

    /** With a ROAD (none: an empty text) and TUNES for BOOKS 0, 1, and so on (left empty: an empty text). */
    static SoundToll made(String road, String... tunes) {
        SoundToll x = new SoundToll();
        if (!road.isEmpty()) {
            lay(x, road);
        }
        for (int book = 0; book < tunes.length; book++) {
            if (!tunes[book].isEmpty()) {
                write(x, book, tunes[book]);
            }
        }
        return x;
    }

    static int lay(SoundToll x, String road) {
        x.blank();
        spell(x, road);
        return x.road();
    }

    static int write(SoundToll x, int book, String tune) {
        x.blank();
        spell(x, tune);
        return x.write(book);
    }

    /** The BEATS of a BOOK, with blanks between. */
    static String beats(SoundToll x, int book) {
        StringBuilder text = new StringBuilder();
        for (int beat = 0; beat < x.tune(book, 0); beat++) {
            text.append(beat == 0 ? "" : " ").append(x.beat(book, beat));
        }
        return text.toString();
    }

    void dueBeats(String tune, String want) {
        SoundToll x = made("", tune);
        rows++;
        if (!beats(x, 0).equals(want)) {
            wrong++;
            System.out.println(tune + " has beats " + beats(x, 0) + ", due is " + want);
        }
    }
}
