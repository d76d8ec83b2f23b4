/** Promises 4 and 7: THE MEADOW is told, and what cells answer. */
public final class MeadowTest {
    private static final Check CHECK = new Check();

    public static void main(String[] args) {
        good();
        faults();
        refusedChangesNothing();
        anew();
        smaller();
        cells();
        CHECK.close("MeadowTest");
    }

    private static void due(String words, int want) {
        CHECK.due("meadow '" + words + "'", Check.meadow(new RoadsByCows(), words), want);
    }

    private static void good() {
        due("0", 1);
        due("#", 1);
        due("++++++", 6);
        due("12345678", 8);
        due("1/2/3/4/5/6/7/8", 8);
        due("00000000/00000000/00000000/00000000/00000000/00000000/00000000/00000000", 64);
        due("+++/+++", 6);
    }

    private static void faults() {
        due("", -1);
        due("x", -1);
        due("/", -1);
        due("1/", -3);
        due("1//1", -3);
        due("12/1", -5);
        due("12/1/12", -5);
        due("12/123", -6);
        due("12/12x", -6);
        due("123456789", -9);
        due("12345678x", -9);
        due("+++++++", -7);
        due("+++/++++", -8);
        due("1/1/1/1/1/1/1/1/1", -16);
        due("1/1/1/1/1/1/1/1/", -16);
        due("12/ab", -4);
        due("00000000/00000000/00000000/00000000/00000000/00000000/00000000/000000000", -72);
        due("00000000/00000000/00000000/00000000/00000000/00000000/00000000/00000000/00000000", -72);
        due("a1", -1);
        due("1 ", -2);
    }

    private static void refusedChangesNothing() {
        RoadsByCows x = Check.made("12/+4", "a15");
        x.salt(0, 3);
        x.keep(0);
        x.snow();
        x.hour();
        CHECK.due("a refused one", Check.meadow(x, "12/3"), -5);
        CHECK.due("columns", x.count(0), 2);
        CHECK.due("rows", x.count(1), 2);
        CHECK.due("GATES", x.count(2), 1);
        CHECK.due("herds", x.count(4), 1);
        CHECK.due("NOW", x.count(6), 1);
        CHECK.due("what can be undone", x.count(10), 2);
        CHECK.due("the ROW", x.count(11), 1);
        CHECK.due("SALT", Check.cell(x, 0, 1), 3);
        CHECK.due("it has snowed", x.thaw() >= 0, true);
        CHECK.due("what is kept", x.again(0), true);
    }

    private static void anew() {
        RoadsByCows x = Check.made("12/+4", "a15;b15*");
        x.salt(0, 3);
        x.thistles(1, 4);
        x.gate(0, 1);
        x.hours(3);
        x.set(0, 40);
        x.set(1, 50);
        x.snow();
        x.keep(0);
        x.keep(1);
        Check.rule(x, "m");
        CHECK.due("meadow()", Check.meadow(x, "000/0+0/+++"), 9);
        int[] due = {3, 3, 4, 0, 0, 0, 0, 40, 50, 0, 0};
        for (int what = 0; what < due.length; what++) {
            CHECK.due("anew: count(" + what + ")", x.count(what), due[what]);
        }
        CHECK.due("anew: the ROW stays", x.count(11), 2);
        for (int cell : new int[] {0, 1, 2, 8, 10}) {
            int[] of = {0, 0, 0, 0, -1, -1, 0, 0};
            for (int what = 0; what < of.length; what++) {
                CHECK.due("anew: cell(" + cell + ", " + what + ")", Check.cell(x, cell, what), of[what]);
            }
        }
        CHECK.due("anew: no snow", x.thaw(), -2);
        CHECK.due("anew: nothing to be undone", x.undo(), -1);
        CHECK.due("anew: nothing is kept", x.again(0), false);
        CHECK.due("anew: nothing is kept", x.again(1), false);
        Check.herds(x, "a15;c15");
        CHECK.due("anew: THE RULE stays", Check.herd(x, 0, 4), 1);
        CHECK.due("anew: not slow", Check.herd(x, 0, 2), 0);
        CHECK.due("anew: not slow", Check.herd(x, 1, 2), 0);
    }

    private static void smaller() {
        RoadsByCows x = Check.made("#00/000/000", "c35");
        x.salt(1, 7);
        x.thistles(1, 7);
        CHECK.due("a smaller one", Check.meadow(x, "+0/#0"), 4);
        CHECK.due("columns", x.count(0), 2);
        CHECK.due("rows", x.count(1), 2);
        CHECK.due("a GATE where a FENCE was", Check.cell(x, 0, 3), 2);
        CHECK.due("a FENCE where GRASS was", Check.cell(x, 8, 3), 1);
        CHECK.due("no SALT there", x.salt(8, 1), -2);
        CHECK.due("no SALT is left", Check.cell(x, 1, 1), 0);
        CHECK.due("no THISTLES are left", Check.cell(x, 1, 2), 0);
        for (int cell : new int[] {2, 10, 16, 18}) {
            CHECK.due("no cell " + cell, Check.cell(x, cell, 0), Check.THROWN);
        }
        CHECK.due("GRASS in all", x.count(9), 0);
    }

    private static void cells() {
        RoadsByCows x = Check.made("97#/+05", "b15;b14*;c23");
        long[][] due = {
            {9, 0, 0, 0, -1, -1, 0, 0}, {7, 0, 0, 0, 0, 1, 1, 3}, {0, 0, 0, 1, -1, -1, 0, 0},
            {0, 0, 0, 2, -1, -1, 0, 0}, {0, 0, 0, 0, -1, -1, 0, 0}, {5, 0, 0, 0, 0, 2, 1, 4},
        };
        int[] cells = {0, 1, 2, 8, 9, 10};
        for (int i = 0; i < cells.length; i++) {
            for (int what = 0; what < 8; what++) {
                CHECK.due("cell(" + cells[i] + ", " + what + ")", Check.cell(x, cells[i], what), due[i][what]);
            }
        }
        x.gate(0, 1);
        x.salt(0, 9);
        x.thistles(9, 8);
        CHECK.due("a GATE that is open", Check.cell(x, 8, 3), 3);
        CHECK.due("SALT", Check.cell(x, 0, 1), 9);
        CHECK.due("THISTLES", Check.cell(x, 9, 2), 8);
        for (int cell : new int[] {-1, 3, 7, 11, 16, 63, 64, 72, Integer.MAX_VALUE, Integer.MIN_VALUE}) {
            CHECK.due("no cell " + cell, Check.cell(x, cell, 0), Check.THROWN);
        }
        for (int what : new int[] {-1, 8, Integer.MAX_VALUE, Integer.MIN_VALUE}) {
            CHECK.due("no what " + what, Check.cell(x, 0, what), Check.THROWN);
        }
        // ROAD is what was trodden KEEPS HOURS ago or less.
        Check.rule(x, "0");
        x.drive(2, 9);
        x.set(0, 2);
        x.hours(2);
        CHECK.due("trodden KEEPS HOURS ago", Check.cell(x, 10, 6), 1);
        CHECK.due("LAST", Check.cell(x, 10, 4), 0);
        x.hour();
        CHECK.due("grassed over", Check.cell(x, 10, 6), 0);
        CHECK.due("LAST stays", Check.cell(x, 10, 4), 0);
        CHECK.due("by whom stays", Check.cell(x, 10, 5), 2);
        CHECK.due("where the herd is", Check.cell(x, 9, 4), 3);
        CHECK.due("where the herd is: ROAD", Check.cell(x, 9, 6), 1);
    }
}
