/** What the Terms tell of WORTH, of what one PAYS, and of who PASSES. */
final class WorthEdges extends Edges {
    private static final String ALL = "(abcdefg)";

    WorthEdges(Sentences doc) {
        super(doc);
    }

    @Override
    void hold() {
        term("WORTH of a TUNE at a GATE, all NOTES being by as many higher (a above g) as the WIND there is (0 to 6):",
                this::inWinds);
        term("each NOTE of each BEAT is worth 1;", this::eachNote);
        term("at a CART gate a, b and c are worth 3;", this::cart);
        term("at a DEAF one each is worth 2, but only those of BEATS 0, 2, 4, and so on;", this::deaf);
        term("at a STEEP one a BEAT that is no REST is worth as much as its highest NOTE is apart from the highest one "
                + "of the last BEAT ahead of it that is no REST", this::steep);
        term("(RESTS between are passed over; 1, if there is no such);", this::steepRests);
        term("at a BELL so, too, and each BEAT of two NOTES, or more, 3 besides.", this::bell);
        term("It PAYS its WORTH, less by how often it is WORN there; 0 at least.", this::lessByWorn);
        term("One PASSES who PAYS as much as the TOLL, or more;", this::passes);
        term("what is more is CHANGE.", this::change);
    }

    private void pays(String kind, int wind, String tune, int want) {
        Scenes.Scene scene = () -> {
            SoundToll x = Check.made("g00," + kind + "00", tune);
            x.wind(1, wind);
            return x;
        };
        still(scene, "pays(0, 1) of " + tune + " at " + kind + " in wind " + wind, x -> x.pays(0, 1), want);
    }

    /** By the WIND, 0 to 6. */
    private void paysInWinds(String kind, String tune, int... want) {
        for (int wind = 0; wind <= 6; wind++) {
            pays(kind, wind, tune, want[wind]);
        }
    }

    private void inWinds() {
        paysInWinds("c", "a", 3, 3, 3, 1, 1, 1, 1);
        paysInWinds("c", "b", 3, 3, 1, 1, 1, 1, 3);
        paysInWinds("c", "g", 1, 3, 3, 3, 1, 1, 1);
        paysInWinds("c", "(ag)", 4, 6, 6, 4, 2, 2, 2);
        paysInWinds("s", "ag", 7, 2, 2, 2, 2, 2, 2);
        paysInWinds("s", "ab", 2, 2, 2, 2, 2, 2, 7);
        paysInWinds("s", "ac", 3, 3, 3, 3, 3, 6, 6);
        paysInWinds("s", "(ag)c", 5, 3, 3, 3, 3, 6, 6);
        paysInWinds("b", "(ab)c", 5, 5, 5, 5, 5, 10, 9);
        paysInWinds("g", "a(bg).", 3, 3, 3, 3, 3, 3, 3);
        paysInWinds("d", "a(bg).g", 2, 2, 2, 2, 2, 2, 2);
        paysInWinds("c", ".", 0, 0, 0, 0, 0, 0, 0);
    }

    private void eachNote() {
        pays("g", 0, ".", 0);
        pays("g", 0, "a", 1);
        pays("g", 0, "g", 1);
        pays("g", 0, "(aa)", 1);
        pays("g", 0, "(ag)", 2);
        pays("g", 0, ALL, 7);
        pays("g", 0, ALL + ".a", 8);
        pays("g", 0, "4[3[2[2[" + ALL + "]]]]3[4[" + ALL + "]]", 420);
    }

    private void cart() {
        pays("c", 0, ".", 0);
        pays("c", 0, "a", 3);
        pays("c", 0, "b", 3);
        pays("c", 0, "c", 3);
        pays("c", 0, "d", 1);
        pays("c", 0, "g", 1);
        pays("c", 0, "(cd)", 4);
        pays("c", 0, ALL, 13);
        pays("c", 0, "4[3[2[2[" + ALL + "]]]]3[4[" + ALL + "]]", 780);
    }

    private void deaf() {
        pays("d", 0, "a", 2);
        pays("d", 0, ".a", 0);
        pays("d", 0, "..a", 2);
        pays("d", 0, "...a", 0);
        pays("d", 0, "....a", 2);
        pays("d", 0, "aa", 2);
        pays("d", 0, "aaa", 4);
        pays("d", 0, ALL + ALL, 14);
        pays("d", 0, "(ab).(cg)", 8);
        pays("d", 0, "4[4[...]].........a", 0);
        pays("d", 0, "4[4[...]]..........a", 2);
        pays("d", 0, "4[4[...]]...........a", 0);
    }

    private void steep() {
        pays("s", 0, "aa", 1);
        pays("s", 0, "ab", 2);
        pays("s", 0, "ba", 2);
        pays("s", 0, "ag", 7);
        pays("s", 0, "ga", 7);
        pays("s", 0, "aga", 13);
        pays("s", 0, "(ag)f", 2);
        pays("s", 0, "f(ag)", 2);
        pays("s", 0, "(ag)(fg)", 1);
        pays("s", 0, "(ab)(ad)(bc)", 4);
        pays("s", 0, "abcdefg", 7);
        pays("s", 0, "4[3[gagag]]", 289);
    }

    private void steepRests() {
        pays("s", 0, ".", 0);
        pays("s", 0, "a", 1);
        pays("s", 0, "g", 1);
        pays("s", 0, ALL, 1);
        pays("s", 0, ".g", 1);
        pays("s", 0, "..g", 1);
        pays("s", 0, "a.", 1);
        pays("s", 0, "a.g", 7);
        pays("s", 0, "a...g", 7);
        pays("s", 0, ".g..a.", 7);
        pays("s", 0, "g.g", 1);
    }

    private void bell() {
        pays("b", 0, ".", 0);
        pays("b", 0, "a", 1);
        pays("b", 0, "(aa)", 1);
        pays("b", 0, "(ab)", 4);
        pays("b", 0, "(abc)", 4);
        pays("b", 0, ALL, 4);
        pays("b", 0, "ag", 7);
        pays("b", 0, "a.g", 7);
        pays("b", 0, "a(ag)", 10);
        pays("b", 0, "(ag)(ag)", 7);
        pays("b", 0, "(ab).(bg)", 12);
    }

    private void lessByWorn() {
        SoundToll x = Check.made("g09,c09,g09", "ab", "c");
        int[] want = {2, 1, 0, 0, 0};
        for (int worn = 0; worn < want.length; worn++) {
            due("pays(0, 0) worn " + worn, x.pays(0, 0), want[worn]);
            x.go(0, 0);
        }
        due("worn(0, 0)", x.worn(0, 0), 5);
        due("at another gate", x.pays(0, 1), 6);
        due("at a gate of that kind", x.pays(0, 2), 2);
        due("another tune there", x.pays(1, 0), 1);
    }

    private void passes() {
        for (int toll = 0; toll <= 4; toll++) {
            SoundToll x = Check.made("g0" + toll + ",g99", "abc");
            due("go at toll " + toll, x.go(0, 0), 3);
            due("passed at toll " + toll, x.gate(0, 3), toll <= 3 ? 1 : 0);
            due("owed at toll " + toll, x.gate(0, 4), toll <= 3 ? 0 : 1);
        }
        SoundToll y = Check.made("g00,g01", ".");
        due("a rest at toll 0 and toll 1", y.tune(0, 8), 1);
        due("most", Check.made("g99,g99", "4[4[" + ALL + "]]").tune(0, 8), 2);
    }

    private void change() {
        int[] want = {3, 2, 1, 0};
        for (int toll = 0; toll <= 3; toll++) {
            String road = "g0" + toll + ",g99";
            still(() -> Check.made(road, "abc"), "send(1) at toll " + toll, x -> x.send(1), want[toll]);
        }
        still(() -> Check.made("g04,g99", "abc"), "send(1) where none passes", x -> x.send(1), 0);
    }
}
