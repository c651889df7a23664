import java.util.Random;

/** Long runs of calls by a fixed seed: the class and the Model answer the same, and nothing is ever thrown. */
public final class ModelTest {
    private static final Check CHECK = new Check();
    private static final int RUNS = 500;
    private static final int CALLS = 512;
    private static final int[] ODD = {-1, 5, 7, 9, 11, 14, 60, 61, 99, 100, 127, Integer.MIN_VALUE, Integer.MAX_VALUE};

    private final Random random;
    private final SoundToll x = new SoundToll();
    private final Model model = new Model();
    private final int run;
    private String spelt = "";
    private int calls;

    private ModelTest(int run) {
        this.run = run;
        random = new Random(run);
    }

    public static void main(String[] args) {
        for (int run = 0; run < RUNS; run++) {
            new ModelTest(run).go();
        }
        CHECK.end();
    }

    private void go() {
        while (calls < CALLS) {
            int kind = random.nextInt(16);
            if (kind == 0) {
                text(road());
                due("road()", x.road(), model.road());
            } else if (kind <= 3) {
                text(random.nextInt(6) == 0 ? anyText() : tune(0));
                int book = number(4);
                due("write(" + book + ")", x.write(book), model.write(book));
            } else if (kind <= 5) {
                change();
            } else if (kind <= 7) {
                move();
            } else {
                ask();
            }
            if (random.nextInt(8) == 0) {
                due("digest()", x.digest(), model.digest());
            }
        }
    }

    /** What is answered behind the last call that is promised is free. */
    private void due(String call, long got, long want) {
        calls++;
        if (calls > CALLS) {
            return;
        }
        CHECK.due("run " + run + ", call " + calls + " (page: " + spelt + "): " + call, got, want);
    }

    /** Below so many, but for a few odd ones. */
    private int number(int below) {
        return random.nextInt(24) == 0 ? ODD[random.nextInt(ODD.length)] : random.nextInt(below);
    }

    private void text(String text) {
        if (random.nextInt(20) != 0) {
            due("blank()", x.blank(), model.blank());
            spelt = "";
        }
        for (int place = 0; place < text.length(); place++) {
            int code = text.charAt(place);
            due("letter(" + code + ")", x.letter(code), model.letter(code));
        }
        spelt += text;
        due("fault()", x.fault(), model.fault());
        due("tuneFault()", x.tuneFault(), model.tuneFault());
    }

    private char oneOf(String signs) {
        return signs.charAt(random.nextInt(signs.length()));
    }

    private String road() {
        StringBuilder text = new StringBuilder();
        int gates = random.nextInt(12) == 0 ? 1 + 4 * random.nextInt(2) : 2 + random.nextInt(3);
        for (int gate = 0; gate < gates; gate++) {
            text.append(gate == 0 ? "" : ",").append(oneOf("gcdsb")).append(oneOf("0000123")).append(oneOf("0123456789"));
        }
        if (random.nextInt(10) == 0) {
            text.setCharAt(random.nextInt(text.length()), oneOf("gcdsb019,xaG"));
        }
        return text.toString();
    }

    private String anyText() {
        StringBuilder text = new StringBuilder();
        int length = random.nextInt(44);
        for (int place = 0; place < length; place++) {
            text.append(oneOf(random.nextInt(9) == 0 ? " 15[]<>()^.hz" : "ab23[[]<>(()^.4[["));
        }
        return text.toString();
    }

    private String tune(int depth) {
        StringBuilder text = new StringBuilder();
        int items = 1 + random.nextInt(depth == 0 ? 9 : 3);
        for (int item = 0; item < items; item++) {
            text.append(item(depth));
        }
        return text.toString();
    }

    private String item(int depth) {
        switch (random.nextInt(depth < 4 ? 12 : 7)) {
            case 0: return ".";
            case 1:
            case 2:
                StringBuilder notes = new StringBuilder("(");
                int many = 1 + random.nextInt(4);
                for (int note = 0; note < many; note++) {
                    notes.append(oneOf("abcdefg"));
                }
                return notes.append(')').toString();
            case 3: return "^" + item(depth);
            case 7:
            case 8: return oneOf("234") + "[" + tune(depth + 1) + "]";
            case 9: return "<" + tune(depth + 1) + ">";
            default: return "" + oneOf("aaabcdefgg");
        }
    }

    private void change() {
        int gate = number(4);
        switch (random.nextInt(8)) {
            case 0:
                int book = number(4);
                due("burn(" + book + ")", x.burn(book), model.burn(book));
                break;
            case 1:
                due("forget()", x.forget(), model.forget());
                break;
            case 2:
                due("image()", x.image(), model.image());
                break;
            case 3:
                due("restore()", x.restore(), model.restore());
                break;
            case 4:
            case 5:
                int wind = number(7);
                due("wind(" + gate + ", " + wind + ")", x.wind(gate, wind), model.wind(gate, wind));
                break;
            default:
                int toll = random.nextInt(3) == 0 ? number(100) : number(15);
                due("toll(" + gate + ", " + toll + ")", x.toll(gate, toll), model.toll(gate, toll));
                break;
        }
    }

    private void move() {
        int book = number(4);
        int gate = number(4);
        String of = "(" + book + ", " + gate + ")";
        if (random.nextInt(3) == 0) {
            boolean passed = random.nextBoolean();
            due("see" + of + passed, x.see(book, gate, passed), model.see(book, gate, passed));
            return;
        }
        int times = random.nextInt(40) == 0 ? 101 : 1 + random.nextInt(3);
        for (int time = 0; time < times; time++) {
            due("go" + of, x.go(book, gate), model.go(book, gate));
        }
    }

    private void ask() {
        int book = number(4);
        int other = number(4);
        int what = number(3);
        String of = "(" + book + ", " + other + ")";
        switch (random.nextInt(10)) {
            case 0:
                askTune(book);
                break;
            case 1:
                due("apart" + of, x.apart(book, other), model.apart(book, other));
                due("often" + of, x.often(book, other), model.often(book, other));
                break;
            case 2:
                due("alike" + of + what, x.alike(book, other, what), model.alike(book, other, what));
                break;
            case 3:
                what = number(10);
                due("gate" + book + " " + what, x.gate(book, what), model.gate(book, what));
                due("as" + book + " " + what, x.as(book, what), model.as(book, what));
                break;
            case 4:
                due("pays" + of, x.pays(book, other), model.pays(book, other));
                due("worn" + of, x.worn(book, other), model.worn(book, other));
                break;
            case 5:
                due("shortest" + of, x.shortest(book, other), model.shortest(book, other));
                break;
            case 6:
                due("higher" + book + " " + what, x.higher(book, what), model.higher(book, what));
                break;
            case 7:
                what = random.nextInt(2) * 10 + number(5);
                due("send(" + what + ")", x.send(what), model.send(what));
                break;
            case 8:
                int times = number(62);
                int seed = random.nextInt();
                due("fairs(" + times + ", " + seed + ")" + what, x.fairs(times, seed, what), model.fairs(times, seed, what));
                break;
            default:
                what = number(12);
                due("count(" + what + ")", x.count(what), model.count(what));
                break;
        }
    }

    private void askTune(int book) {
        int what = number(10);
        due("tune(" + book + ", " + what + ")", x.tune(book, what), model.tune(book, what));
        int beat = number(20);
        due("beat(" + book + ", " + beat + ")", x.beat(book, beat), model.beat(book, beat));
    }
}
