/** Promises 26 to 31: hours to come. None of the questions changes anything. */
public final class ComingTest {
    private static final Check CHECK = new Check();

    public static void main(String[] args) {
        where();
        roadin();
        market();
        trodden();
        meets();
        round();
        questionsChangeNothing();
        CHECK.close("ComingTest");
    }

    /** A herd that goes a1, b1, c1, d1 and then to and fro between c1 and d1. */
    private static RoadsByCows walker() {
        RoadsByCows x = Check.made("0000", "a10");
        Check.rule(x, "m");
        return x;
    }

    private static void where() {
        RoadsByCows x = walker();
        CHECK.due("now", x.where(0, 0), 0);
        CHECK.dueRow("now", x, 1, 1);
        CHECK.due("in 3", x.where(0, 3), 3);
        CHECK.dueRow("in 3", x, 0, 4);
        CHECK.due("in 4", x.where(0, 4), 2);
        CHECK.due("in 100", x.where(0, 100), 2);
        CHECK.dueRow("in 100", x, 0, 2);
        x.set(0, 1);
        CHECK.due("in 3, KEEPS 1", x.where(0, 3), 3);
        CHECK.dueRow("in 3, KEEPS 1", x, 0, 2);
        Check.rule(x, "0");
        CHECK.due("it stays", x.where(0, 50), 0);
        CHECK.dueRow("it stays", x, 1, 1);
        CHECK.due("too far", x.where(0, 101), -1);
        CHECK.due("gone by", x.where(0, -1), -1);
        CHECK.due("none such", x.where(1, 1), -1);
        CHECK.due("none such", x.where(-1, 1), -1);
        CHECK.dueRow("they leave the ROW", x, 1, 1);
        // From an HOUR that is not 0, with a slow one.
        RoadsByCows y = Check.made("0000", "a10*");
        Check.rule(y, "m");
        y.hour();
        CHECK.due("HOUR 2", y.where(0, 1), 1);
        CHECK.due("HOUR 3", y.where(0, 2), 1);
        CHECK.dueRow("HOUR 3", y, 1, 2);
    }

    private static void roadin() {
        RoadsByCows x = walker();
        CHECK.due("now", x.roadin(0), 1);
        CHECK.dueRow("now", x, Check.bits(0), 0);
        CHECK.due("in 2", x.roadin(2), 3);
        CHECK.dueRow("in 2", x, Check.bits(0, 1, 2), 0);
        x.set(0, 1);
        CHECK.due("in 3, KEEPS 1", x.roadin(3), 2);
        CHECK.dueRow("in 3, KEEPS 1", x, Check.bits(2, 3), Check.bits(0));
        CHECK.due("in 100", x.roadin(100), 2);
        CHECK.due("too far", x.roadin(101), -1);
        CHECK.due("gone by", x.roadin(-1), -1);
        RoadsByCows y = new RoadsByCows();
        CHECK.due("no cells", y.roadin(5), 0);
        CHECK.dueRow("no cells", y, 0, 0);
        // The sixty-fourth cell is a bit too.
        RoadsByCows z = Check.made("00000000/00000000/00000000/00000000/00000000/00000000/00000000/00000000", "h80");
        CHECK.due("the last cell", z.roadin(0), 1);
        CHECK.dueRow("the last cell", z, Long.MIN_VALUE, 0);
    }

    private static void market() {
        RoadsByCows x = walker();
        x.set(0, 1);
        CHECK.due("a1 grasses over", x.market(0, 5), 1);
        CHECK.dueRow("a1 grasses over", x, 1, 1, 1);
        CHECK.due("d1 comes", x.market(3, 5), 3);
        CHECK.dueRow("d1 comes", x, 3, 5, 3);
        CHECK.due("b1 comes and goes", x.market(1, 100), 2);
        CHECK.dueRow("b1 comes and goes", x, 1, 2, 2);
        x.set(0, 0);
        CHECK.due("now and then", x.market(3, 6), 2);
        CHECK.dueRow("now and then", x, 3, 5, 1);
        CHECK.due("d1 in 2", x.market(3, 2), 0);
        CHECK.dueRow("d1 in 2", x, -1, -1, 0);
        CHECK.due("one HOUR", x.market(1, 1), 1);
        CHECK.dueRow("one HOUR", x, 1, 1, 1);
        CHECK.due("d1 in 2, once more", x.market(3, 2), 0);
        CHECK.due("no HOURS", x.market(3, 0), -1);
        CHECK.due("too far", x.market(3, 101), -1);
        CHECK.due("none such", x.market(4, 5), -1);
        CHECK.due("none such", x.market(-1, 5), -1);
        CHECK.dueRow("they leave the ROW", x, -1, -1, 0);
        // HOURS are counted from now on.
        x.hours(2);
        CHECK.due("from HOUR 2 on", x.market(3, 4), 2);
        CHECK.dueRow("from HOUR 2 on", x, 1, 3, 1);
        CHECK.due("a FENCE", Check.made("0#", "a10").market(1, 3), 0);
    }

    private static void trodden() {
        RoadsByCows x = Check.made("0000#+", "a10;a10;c10*");
        Check.rule(x, "m");
        CHECK.due("now", x.trodden(0), 0);
        CHECK.dueRow("now, the first", x, 0);
        CHECK.due("b1", x.trodden(1), 1);
        CHECK.dueRow("b1, the first of two", x, 0);
        CHECK.due("c1, now", x.trodden(2), 0);
        CHECK.dueRow("c1, now", x, 2);
        CHECK.due("d1", x.trodden(3), 2);
        CHECK.dueRow("d1, by the slow one", x, 2);
        CHECK.due("a FENCE", x.trodden(4), -2);
        CHECK.due("a GATE that is shut", x.trodden(5), -2);
        CHECK.due("none such", x.trodden(6), -1);
        CHECK.due("none such", x.trodden(-1), -1);
        CHECK.dueRow("they leave the ROW", x, 2);
        CHECK.due("no herds", Check.made("0", "").trodden(0), -2);
        RoadsByCows y = Check.made("00", "a10");
        Check.rule(y, "(k=100)*m");
        CHECK.due("in HOUR 100", y.trodden(1), 100);
        Check.rule(y, "(k=101)*m");
        CHECK.due("in HOUR 101", y.trodden(1), -2);
    }

    private static void meets() {
        RoadsByCows x = Check.made("000000", "a10;f10");
        Check.rule(x, "m");
        CHECK.due("in 3", x.meets(), 3);
        CHECK.dueRow("in 3", x, 6);
        x.hours(3);
        CHECK.due("now", x.meets(), 0);
        CHECK.dueRow("now", x, 6);
        Check.rule(x, "0");
        x.set(0, 2);
        x.hours(5);
        // a1 .. c1 are long grassed over; herds are at d1 and e1.
        CHECK.due("side by side", x.meets(), 0);
        CHECK.dueRow("side by side", x, 2);
        CHECK.due("no herds", Check.made("00", "").meets(), -2);
        RoadsByCows y = Check.made("0#0", "a10;c10");
        Check.rule(y, "m");
        CHECK.due("never", y.meets(), -2);
        CHECK.due("one herd", Check.made("0", "a10").meets(), 0);
        RoadsByCows z = Check.made("000", "a10;c10");
        Check.rule(z, "(k=100)*m*(i=0)");
        CHECK.due("in HOUR 100", z.meets(), 100);
        Check.rule(z, "(k=101)*m*(i=0)");
        CHECK.due("in HOUR 101", z.meets(), -2);
    }

    private static void round() {
        RoadsByCows x = walker();
        CHECK.due("c1 again", x.round(0), 4);
        CHECK.dueRow("c1 again", x, 2, 2);
        x.hours(3);
        CHECK.due("d1 again", x.round(0), 2);
        CHECK.dueRow("d1 again", x, 3, 2);
        Check.rule(x, "0");
        CHECK.due("it stays", x.round(0), 1);
        CHECK.dueRow("it stays", x, 3, 1);
        CHECK.due("none such", x.round(1), -1);
        CHECK.due("none such", x.round(-1), -1);
        CHECK.dueRow("they leave the ROW", x, 3, 1);
    }

    private static void questionsChangeNothing() {
        RoadsByCows x = Check.made("12+/345/678", "a15;c34*");
        x.salt(1, 5);
        x.hours(2);
        String ahead = shown(x);
        x.where(0, 9);
        x.roadin(9);
        x.market(1, 9);
        x.trodden(1);
        x.meets();
        x.round(0);
        x.lure(9, 9);
        x.hedge(1, 9);
        x.gates(0, 1, 9);
        x.ways(0, 1, 5);
        x.lost(0, 1, 5);
        x.letter(0);
        x.season(7, 9);
        x.road();
        x.squares();
        x.cart(0, 1);
        x.joined(0);
        x.owners();
        x.least();
        x.furthest(0);
        x.herd(0, 4);
        CHECK.due("as ahead of them", shown(x).equals(ahead), true);
    }

    private static String shown(RoadsByCows x) {
        StringBuilder all = new StringBuilder();
        for (int cell = 0; cell < 64; cell++) {
            for (int what = 0; what < 8; what++) {
                all.append(Check.cell(x, cell, what)).append(' ');
            }
        }
        for (int herd = 0; herd < 6; herd++) {
            for (int what = 0; what < 5; what++) {
                all.append(Check.herd(x, herd, what)).append(' ');
            }
        }
        for (int what = 0; what <= 10; what++) {
            all.append(x.count(what)).append(' ');
        }
        return all.toString();
    }
}
