/**
 * Terms 2: questions change nothing (but the ROW, where they tell one). Each question of the face,
 * at its least and its most, on one of two twins.
 */
public final class QuestionsTest {
    private static final Check CHECK = new Check();
    private static final Twins TWINS = new Twins(CHECK);

    public static void main(String[] args) {
        whatIs();
        roads();
        coming();
        searches();
        letters();
        andTheRow();
        CHECK.close("QuestionsTest");
    }

    private static void whatIs() {
        for (int what = 0; what < 8; what++) {
            int w = what;
            TWINS.refuses("cell(11, " + w + ")", x -> Check.cell(x, 11, w) * 0, 0);
        }
        for (int what = 0; what < 5; what++) {
            int w = what;
            TWINS.refuses("herd(1, " + w + ")", x -> Check.herd(x, 1, w) * 0, 0);
        }
        for (int what = 0; what < 13; what++) {
            int w = what;
            TWINS.refuses("count(" + w + ")", x -> x.count(w) * 0L, 0);
        }
        TWINS.refuses("row(2)", x -> Check.row(x, 2) * 0, 0);
    }

    private static void roads() {
        TWINS.asks("road()", x -> x.road());
        TWINS.asks("squares()", x -> x.squares());
        TWINS.asks("cart(0, 0)", x -> x.cart(0, 0));
        TWINS.asks("joined(0)", x -> x.joined(0));
        TWINS.asks("joined(1)", x -> x.joined(1));
        TWINS.asks("owners()", x -> x.owners());
        TWINS.asks("least()", x -> x.least());
        TWINS.asks("furthest(0)", x -> x.furthest(0));
        TWINS.asks("thaw()", x -> x.thaw());
    }

    private static void coming() {
        for (int n : new int[] {0, 1, 100}) {
            TWINS.asks("where(0, " + n + ")", x -> x.where(0, n));
            TWINS.asks("where(1, " + n + ")", x -> x.where(1, n));
            TWINS.asks("roadin(" + n + ")", x -> x.roadin(n));
        }
        for (int n : new int[] {1, 2, 100}) {
            TWINS.asks("market(0, " + n + ")", x -> x.market(0, n));
            TWINS.asks("market(11, " + n + ")", x -> x.market(11, n));
        }
        for (int cell : new int[] {0, 1, 2, 3, 8, 9, 10, 11}) {
            TWINS.asks("trodden(" + cell + ")", x -> x.trodden(cell));
            TWINS.asks("letter(" + cell + ")", x -> x.letter(cell));
        }
        TWINS.asks("meets()", x -> x.meets());
        TWINS.asks("round(0)", x -> x.round(0));
        TWINS.asks("round(1)", x -> x.round(1));
    }

    private static void searches() {
        for (int n : new int[] {1, 3, 100}) {
            for (int cell : new int[] {0, 1, 2, 3, 8, 9, 10, 11}) {
                TWINS.asks("lure(" + cell + ", " + n + ")", x -> x.lure(cell, n));
                TWINS.asks("hedge(" + cell + ", " + n + ")", x -> x.hedge(cell, n));
                TWINS.asks("gates(0, " + cell + ", " + n + ")", x -> x.gates(0, cell, n));
                TWINS.asks("gates(1, " + cell + ", " + n + ")", x -> x.gates(1, cell, n));
            }
        }
    }

    private static void letters() {
        for (int k : new int[] {0, 1, 20}) {
            TWINS.asks("ways(0, 0, " + k + ")", x -> x.ways(0, 0, k));
            TWINS.asks("ways(0, 9, " + k + ")", x -> x.ways(0, 9, k));
        }
        for (int n : new int[] {0, 1, 40}) {
            TWINS.asks("lost(0, 1, " + n + ")", x -> x.lost(0, 1, n));
            TWINS.asks("lost(11, 9, " + n + ")", x -> x.lost(11, 9, n));
        }
        for (int n : new int[] {1, 2, 60}) {
            TWINS.asks("season(5, " + n + ")", x -> x.season(5, n));
            TWINS.asks("season(-1, " + n + ")", x -> x.season(-1, n));
        }
        TWINS.asksText("bride a1", x -> Check.bride(x, "a1"));
        TWINS.asksText("bride a1a1", x -> Check.bride(x, "a1a1"));
    }

    /** What does not say that it tells a ROW leaves it as it was. */
    private static void andTheRow() {
        RoadsByCows x = Check.made("00+", "a10");
        CHECK.due("road()", x.road(), 1);
        x.salt(0, 1);
        x.thistles(0, 1);
        x.gate(0, 1);
        x.drive(0, 1);
        x.undo();
        x.set(0, 3);
        x.sheet(2, 1, 1, 1);
        x.keep(0);
        x.again(0);
        x.snow();
        x.herd(0, 4);
        x.cell(0, 3);
        Check.rule(x, "m");
        Check.herds(x, "b11");
        Check.meadow(x, "000");
        CHECK.dueRow("all of them leave the ROW", x, Check.bits(0), 1, 1);
    }
}
