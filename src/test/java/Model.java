import java.util.ArrayList;
import java.util.Collections;
import java.util.List;
import java.util.TreeSet;
import java.util.regex.Matcher;
import java.util.regex.Pattern;

/**
 * A second way to work out what every call answers: from lists and texts, by trying all there is, with
 * nothing of the class but its constants.
 */
final class Model {
    private static final int NONE = -1, UNKNOWN = -101, OUTSIDE = -102, STATE = -103, FULL = -104;
    private static final Pattern ROAD = Pattern.compile("[gcdsb][0-9][0-9](,[gcdsb][0-9][0-9]){1,3}");

    private static final class Gate {
        String kind;
        int toll;
        int wind;
        int passed;
        int owed;

        Gate copy() {
            Gate copy = new Gate();
            copy.kind = kind;
            copy.toll = toll;
            copy.wind = wind;
            copy.passed = passed;
            copy.owed = owed;
            return copy;
        }
    }

    private static final class Tune {
        List<TreeSet<Integer>> beats = new ArrayList<>();
        int depth;
        int[] worn = new int[4];

        Tune copy() {
            Tune copy = new Tune();
            copy.beats = beats;
            copy.depth = depth;
            copy.worn = worn.clone();
            return copy;
        }
    }

    private record Seen(int gate, int paid, boolean passed) {
    }

    private String page = "";
    private Tune[] books = new Tune[4];
    private List<Gate> road = new ArrayList<>();
    private List<Seen> seen = new ArrayList<>();
    private Tune[] keptBooks;
    private List<Gate> keptRoad;
    private List<Seen> keptSeen;
    private int roads;
    private int written;

    // ---- reading

    /** Thrown where the text goes wrong; open: it only ends too early. */
    private static final class Wrong extends Exception {
        private static final long serialVersionUID = 1;
        final int place;

        Wrong(int place) {
            this.place = place;
        }
    }

    private final class Parser {
        int place;
        int deepest;

        char sign() throws Wrong {
            if (place >= page.length()) {
                throw new Wrong(page.length());
            }
            return page.charAt(place);
        }

        void want(char sign) throws Wrong {
            if (sign() != sign) {
                throw new Wrong(place);
            }
            place++;
        }

        /** Up to the sign that ends it (0: the end of the page). */
        List<TreeSet<Integer>> tune(char end, int depth) throws Wrong {
            deepest = Math.max(deepest, depth);
            List<TreeSet<Integer>> beats = new ArrayList<>(item(depth));
            while (end == 0 ? place < page.length() : sign() != end) {
                beats.addAll(item(depth));
                if (beats.size() > 61) {
                    beats = new ArrayList<>(beats.subList(0, 61));
                }
            }
            return beats;
        }

        List<TreeSet<Integer>> item(int depth) throws Wrong {
            char sign = sign();
            place++;
            if ("abcdefg".indexOf(sign) >= 0) {
                return List.of(new TreeSet<>(List.of(sign - 'a')));
            }
            if (sign == '.') {
                return List.of(new TreeSet<>());
            }
            if (sign == '(') {
                return List.of(chord());
            }
            if (sign == '^') {
                return raisedAll(item(depth), 1);
            }
            if (sign == '<') {
                List<TreeSet<Integer>> beats = new ArrayList<>(tune('>', depth + 1));
                Collections.reverse(beats);
                want('>');
                return beats;
            }
            if ("234".indexOf(sign) >= 0) {
                want('[');
                List<TreeSet<Integer>> once = tune(']', depth + 1);
                want(']');
                List<TreeSet<Integer>> beats = new ArrayList<>();
                Collections.nCopies(sign - '0', once).forEach(beats::addAll);
                return beats;
            }
            throw new Wrong(place - 1);
        }

        TreeSet<Integer> chord() throws Wrong {
            TreeSet<Integer> notes = new TreeSet<>();
            while (notes.isEmpty() || sign() != ')') {
                if ("abcdefg".indexOf(sign()) < 0) {
                    throw new Wrong(place);
                }
                notes.add(sign() - 'a');
                place++;
            }
            place++;
            return notes;
        }
    }

    private static TreeSet<Integer> raised(TreeSet<Integer> beat, int by) {
        TreeSet<Integer> notes = new TreeSet<>();
        for (int note : beat) {
            notes.add((note + by) % 7);
        }
        return notes;
    }

    private static List<TreeSet<Integer>> raisedAll(List<TreeSet<Integer>> beats, int by) {
        List<TreeSet<Integer>> all = new ArrayList<>();
        for (TreeSet<Integer> beat : beats) {
            all.add(raised(beat, by));
        }
        return all;
    }

    int letter(int code) {
        if (code < 32 || code > 126) {
            return OUTSIDE;
        }
        if (page.length() == 40) {
            return FULL;
        }
        page += (char) code;
        return page.length();
    }

    int blank() {
        int had = page.length();
        page = "";
        return had;
    }

    int fault() {
        int good = 0;
        for (int end = 1; end <= page.length(); end++) {
            Matcher matcher = ROAD.matcher(page.substring(0, end));
            if (matcher.matches() || matcher.hitEnd()) {
                good = end;
            }
        }
        return good;
    }

    int tuneFault() {
        try {
            new Parser().tune((char) 0, 0);
            return page.length();
        } catch (Wrong wrong) {
            return wrong.place;
        }
    }

    int road() {
        if (!ROAD.matcher(page).matches()) {
            return STATE;
        }
        road = new ArrayList<>();
        for (String text : page.split(",")) {
            Gate gate = new Gate();
            gate.kind = text.substring(0, 1);
            gate.toll = Integer.parseInt(text.substring(1));
            road.add(gate);
        }
        for (Tune tune : books) {
            if (tune != null) {
                tune.worn = new int[4];
            }
        }
        seen = new ArrayList<>();
        keptBooks = null;
        page = "";
        roads++;
        return road.size();
    }

    int write(int book) {
        if (book < 0 || book > 3) {
            return UNKNOWN;
        }
        Tune tune = new Tune();
        Parser parser = new Parser();
        try {
            tune.beats = parser.tune((char) 0, 0);
        } catch (Wrong wrong) {
            return STATE;
        }
        if (tune.beats.size() > 60) {
            return FULL;
        }
        tune.depth = parser.deepest;
        books[book] = tune;
        page = "";
        written++;
        return tune.beats.size();
    }

    int burn(int book) {
        if (book < 0 || book > 3) {
            return UNKNOWN;
        }
        if (books[book] == null) {
            return STATE;
        }
        int had = books[book].beats.size();
        books[book] = null;
        return had;
    }

    // ---- tunes

    private boolean noBook(int book) {
        return book < 0 || book > 3 || books[book] == null;
    }

    private boolean noGate(int gate) {
        return gate < 0 || gate >= road.size();
    }

    int tune(int book, int what) {
        if (noBook(book)) {
            return UNKNOWN;
        }
        List<TreeSet<Integer>> beats = books[book].beats;
        List<TreeSet<Integer>> back = new ArrayList<>(beats);
        Collections.reverse(back);
        switch (what) {
            case 0: return beats.size();
            case 1: return beats.stream().mapToInt(TreeSet::size).sum();
            case 2: return (int) beats.stream().filter(TreeSet::isEmpty).count();
            case 3: return (int) beats.stream().filter(beat -> beat.size() >= 2).count();
            case 4: return beats.stream().flatMap(TreeSet::stream).mapToInt(note -> note).max().orElse(NONE);
            case 5: return period(beats);
            case 6: return beats.equals(back) ? 1 : 0;
            case 7: return books[book].depth;
            case 8: return passing(book, 0);
            default: return OUTSIDE;
        }
    }

    private static int period(List<TreeSet<Integer>> beats) {
        int by = 1;
        while (!beats.subList(by, beats.size()).equals(beats.subList(0, beats.size() - by))) {
            by++;
        }
        return by;
    }

    private int passing(int book, int by) {
        int passing = 0;
        for (int gate = 0; gate < road.size(); gate++) {
            if (paid(book, gate, road.get(gate).wind + by, 60) >= road.get(gate).toll) {
                passing++;
            }
        }
        return passing;
    }

    private static int bits(TreeSet<Integer> beat) {
        int bits = 0;
        for (int note : beat) {
            bits += 1 << note;
        }
        return bits;
    }

    int beat(int book, int beat) {
        if (noBook(book) || beat < 0 || beat >= books[book].beats.size()) {
            return UNKNOWN;
        }
        return bits(books[book].beats.get(beat));
    }

    int apart(int a, int b) {
        if (noBook(a) || noBook(b)) {
            return UNKNOWN;
        }
        List<TreeSet<Integer>> one = books[a].beats;
        List<TreeSet<Integer>> other = books[b].beats;
        int[][] least = new int[one.size() + 1][other.size() + 1];
        for (int i = one.size(); i >= 0; i--) {
            for (int j = other.size(); j >= 0; j--) {
                if (i == one.size() || j == other.size()) {
                    least[i][j] = one.size() - i + other.size() - j;
                } else if (one.get(i).equals(other.get(j))) {
                    least[i][j] = least[i + 1][j + 1];
                } else {
                    least[i][j] = 1 + Math.min(least[i + 1][j + 1], Math.min(least[i + 1][j], least[i][j + 1]));
                }
            }
        }
        return least[0][0];
    }

    int alike(int a, int b, int what) {
        if (noBook(a) || noBook(b)) {
            return UNKNOWN;
        }
        if (what != 0 && what != 1) {
            return OUTSIDE;
        }
        List<TreeSet<Integer>> one = books[a].beats;
        for (int many = one.size(); many > 0; many--) {
            for (int from = 0; from + many <= one.size(); from++) {
                if (Collections.indexOfSubList(books[b].beats, one.subList(from, from + many)) >= 0) {
                    return what == 0 ? many : from;
                }
            }
        }
        return what == 0 ? 0 : NONE;
    }

    int often(int a, int b) {
        if (noBook(a) || noBook(b)) {
            return UNKNOWN;
        }
        List<TreeSet<Integer>> rest = books[a].beats;
        int found = 0;
        int at = Collections.indexOfSubList(rest, books[b].beats);
        while (at >= 0) {
            found++;
            rest = rest.subList(at + 1, rest.size());
            at = Collections.indexOfSubList(rest, books[b].beats);
        }
        return found;
    }

    // ---- gates

    /** What the first so many BEATS of a TUNE would PAY. */
    private int paid(int book, int gate, int wind, int many) {
        if (books[book] == null) {
            return 0;
        }
        List<TreeSet<Integer>> beats = raisedAll(books[book].beats, wind);
        String kind = road.get(gate).kind;
        int worth = 0;
        List<Integer> tops = new ArrayList<>();
        for (int place = 0; place < Math.min(many, beats.size()); place++) {
            TreeSet<Integer> beat = beats.get(place);
            for (int note : beat) {
                worth += kind.equals("g") || kind.equals("c") && note > 2 ? 1 : 0;
                worth += kind.equals("c") && note <= 2 ? 3 : 0;
                worth += kind.equals("d") && place % 2 == 0 ? 2 : 0;
            }
            if (!beat.isEmpty() && "sb".contains(kind)) {
                tops.add(beat.last());
                int last = tops.size() - 1;
                worth += last == 0 ? 1 : Math.abs(tops.get(last) - tops.get(last - 1));
                worth += kind.equals("b") && beat.size() >= 2 ? 3 : 0;
            }
        }
        return Math.max(0, worth - books[book].worn[gate]);
    }

    private int paid(int book, int gate) {
        return paid(book, gate, road.get(gate).wind, 60);
    }

    private List<Integer> tolls(int gate) {
        List<Integer> tolls = new ArrayList<>();
        for (int toll = 0; toll <= 99; toll++) {
            boolean can = true;
            for (Seen it : seen) {
                can &= it.gate != gate || it.passed == it.paid >= toll;
            }
            if (can) {
                tolls.add(toll);
            }
        }
        return tolls;
    }

    private int toTry(int gate) {
        List<Integer> tolls = tolls(gate);
        int best = NONE;
        int least = 1000;
        for (int book = 0; book < 4 && !tolls.isEmpty(); book++) {
            if (books[book] != null) {
                int paid = paid(book, gate);
                int passed = (int) tolls.stream().filter(toll -> paid >= toll).count();
                int worst = Math.max(passed, tolls.size() - passed);
                if (worst < least) {
                    least = worst;
                    best = book;
                }
            }
        }
        return best;
    }

    int gate(int gate, int what) {
        if (noGate(gate)) {
            return UNKNOWN;
        }
        Gate it = road.get(gate);
        List<Integer> tolls = tolls(gate);
        switch (what) {
            case 0: return "gcdsb".indexOf(it.kind);
            case 1: return it.toll;
            case 2: return it.wind;
            case 3: return it.passed;
            case 4: return it.owed;
            case 5: return tolls.size();
            case 6: return tolls.isEmpty() ? NONE : tolls.get(0);
            case 7: return tolls.isEmpty() ? NONE : tolls.get(tolls.size() - 1);
            case 8: return toTry(gate);
            default: return OUTSIDE;
        }
    }

    int as(int gate, int kind) {
        if (noGate(gate)) {
            return UNKNOWN;
        }
        if (kind < 0 || kind > 4) {
            return OUTSIDE;
        }
        int own = "gcdsb".indexOf(road.get(gate).kind);
        return List.of(List.of(0), List.of(0, 1), List.of(0, 2), List.of(0, 3), List.of(0, 3, 4)).get(own).contains(kind)
                ? gate : NONE;
    }

    int pays(int book, int gate) {
        return noBook(book) || noGate(gate) ? UNKNOWN : paid(book, gate);
    }

    int worn(int book, int gate) {
        return noBook(book) || noGate(gate) ? UNKNOWN : books[book].worn[gate];
    }

    int wind(int gate, int wind) {
        if (noGate(gate)) {
            return UNKNOWN;
        }
        if (wind < 0 || wind > 6) {
            return OUTSIDE;
        }
        int was = road.get(gate).wind;
        road.get(gate).wind = wind;
        return was;
    }

    int toll(int gate, int toll) {
        if (noGate(gate)) {
            return UNKNOWN;
        }
        if (toll < 0 || toll > 99) {
            return OUTSIDE;
        }
        int was = road.get(gate).toll;
        road.get(gate).toll = toll;
        return was;
    }

    int go(int book, int gate) {
        if (noBook(book) || noGate(gate)) {
            return UNKNOWN;
        }
        if (books[book].worn[gate] == 99) {
            return FULL;
        }
        int paid = paid(book, gate);
        Gate at = road.get(gate);
        at.passed += paid >= at.toll ? 1 : 0;
        at.owed += Math.max(0, at.toll - paid);
        books[book].worn[gate]++;
        return paid;
    }

    // ---- what would be

    int shortest(int book, int gate) {
        if (noBook(book) || noGate(gate)) {
            return UNKNOWN;
        }
        for (int many = 0; many <= books[book].beats.size(); many++) {
            if (paid(book, gate, road.get(gate).wind, many) >= road.get(gate).toll) {
                return many;
            }
        }
        return NONE;
    }

    int higher(int book, int what) {
        if (noBook(book)) {
            return UNKNOWN;
        }
        if (what != 0 && what != 1) {
            return OUTSIDE;
        }
        if (road.isEmpty()) {
            return STATE;
        }
        List<Integer> passing = new ArrayList<>();
        for (int by = 0; by < 7; by++) {
            passing.add(passing(book, by));
        }
        int most = Collections.max(passing);
        return what == 1 ? most : passing.indexOf(most);
    }

    /** Sent, minus CHANGE, and the GATES: all ways, the best one first. */
    private List<Integer> bestWay() {
        List<List<Integer>> ways = new ArrayList<>();
        for (int code = 0; code < 625; code++) {
            List<Integer> gates = List.of(code / 125 - 1, code / 25 % 5 - 1, code / 5 % 5 - 1, code % 5 - 1);
            int sent = 0;
            int change = 0;
            boolean can = true;
            for (int book = 0; book < 4; book++) {
                int gate = gates.get(book);
                if (gate != NONE) {
                    boolean taken = gates.subList(0, book).contains(gate);
                    int over = noBook(book) || noGate(gate) ? -1 : paid(book, gate) - road.get(gate).toll;
                    can &= !taken && over >= 0;
                    sent++;
                    change += over;
                }
            }
            if (can) {
                List<Integer> way = new ArrayList<>(List.of(-sent, change));
                way.addAll(gates);
                ways.add(way);
            }
        }
        return Collections.min(ways, Model::compare);
    }

    private static int compare(List<Integer> one, List<Integer> other) {
        for (int place = 0; place < one.size(); place++) {
            if (!one.get(place).equals(other.get(place))) {
                return one.get(place) - other.get(place);
            }
        }
        return 0;
    }

    int send(int what) {
        List<Integer> asked = List.of(0, 1, 10, 11, 12, 13);
        if (!asked.contains(what)) {
            return OUTSIDE;
        }
        if (road.isEmpty()) {
            return STATE;
        }
        int answer = bestWay().get(asked.indexOf(what));
        return what == 0 ? -answer : answer;
    }

    // ---- what is seen

    int see(int book, int gate, boolean passed) {
        if (noBook(book) || noGate(gate)) {
            return UNKNOWN;
        }
        if (seen.size() == 8) {
            return FULL;
        }
        seen.add(new Seen(gate, paid(book, gate), passed));
        return seen.size();
    }

    int forget() {
        int had = seen.size();
        seen = new ArrayList<>();
        return had;
    }

    int fairs(int times, int seed, int what) {
        if (times < 1 || times > 60 || seed < 0 || what < 0 || what > 2) {
            return OUTSIDE;
        }
        if (road.isEmpty()) {
            return STATE;
        }
        int[] told = {0, 0, seed};
        for (int time = 0; time < times; time++) {
            int[] drawn = new int[3];
            int[] of = {4, road.size(), 7};
            for (int place = 0; place < 3; place++) {
                told[2] = (int) ((1103515245L * told[2] + 12345L) % 2147483648L);
                drawn[place] = told[2] / 65536 % of[place];
            }
            int over = paid(drawn[0], drawn[1], drawn[2], 60) - road.get(drawn[1]).toll;
            if (over >= 0) {
                told[0]++;
                told[1] += over;
            }
        }
        return told[what];
    }

    // ---- what is told of all

    private static Tune[] copyOf(Tune[] tunes) {
        Tune[] copy = new Tune[4];
        for (int book = 0; book < 4; book++) {
            copy[book] = tunes[book] == null ? null : tunes[book].copy();
        }
        return copy;
    }

    private static List<Gate> copyOf(List<Gate> gates) {
        List<Gate> copy = new ArrayList<>();
        for (Gate gate : gates) {
            copy.add(gate.copy());
        }
        return copy;
    }

    int image() {
        if (road.isEmpty()) {
            return STATE;
        }
        keptBooks = copyOf(books);
        keptRoad = copyOf(road);
        keptSeen = new ArrayList<>(seen);
        return count(3);
    }

    int restore() {
        if (keptBooks == null) {
            return STATE;
        }
        books = copyOf(keptBooks);
        road = copyOf(keptRoad);
        seen = new ArrayList<>(keptSeen);
        return count(3);
    }

    int count(int what) {
        int[] told = {road.size(), 0, 0, 0, 0, 0, 0, seen.size(), page.length(), roads, written};
        for (Gate gate : road) {
            told[3] += gate.passed;
            told[4] += gate.owed;
        }
        for (int book = 0; book < 4; book++) {
            if (books[book] != null) {
                told[1]++;
                told[2] += books[book].beats.size();
                for (int worn : books[book].worn) {
                    told[5] += worn;
                }
                told[6] += passing(book, 0);
            }
        }
        return what < 0 || what > 10 ? OUTSIDE : told[what];
    }

    long digest() {
        List<Integer> told = new ArrayList<>();
        for (int book = 0; book < 4; book++) {
            told.add(noBook(book) ? NONE : tune(book, 0));
            if (!noBook(book)) {
                for (int what = 1; what <= 8; what++) {
                    told.add(tune(book, what));
                }
                books[book].beats.forEach(beat -> told.add(bits(beat)));
                for (int gate = 0; gate < road.size(); gate++) {
                    told.addAll(List.of(pays(book, gate), worn(book, gate), shortest(book, gate)));
                }
            }
        }
        for (int gate = 0; gate < road.size(); gate++) {
            for (int what = 0; what <= 8; what++) {
                told.add(gate(gate, what));
            }
        }
        if (!road.isEmpty()) {
            List<Integer> way = bestWay();
            told.add(-way.get(0));
            told.addAll(way.subList(1, 6));
        }
        page.chars().forEach(told::add);
        for (int what = 0; what <= 10; what++) {
            told.add(count(what));
        }
        long h = 1109;
        for (int it : told) {
            h = 31 * h + it;
        }
        return h;
    }
}
