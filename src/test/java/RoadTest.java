/** Promises 19 to 25: the road as it is. */
public final class RoadTest {
    private static final Check CHECK = new Check();
    private static final String BLANK = "00000000/00000000/00000000/00000000/00000000/00000000/00000000/00000000";

    public static void main(String[] args) {
        road();
        roadIsKept();
        squares();
        cart();
        cartIsLong();
        joined();
        owners();
        least();
        leastGrowsOld();
        furthest();
        CHECK.close("RoadTest");
    }

    /** Dogs drive a herd from cell to cell, at once. */
    private static void drive(RoadsByCows x, int herd, int... cells) {
        for (int cell : cells) {
            if (x.drive(herd, cell) < 0) {
                throw new IllegalArgumentException("a test drives a herd where it can't go: " + cell);
            }
        }
    }

    private static void road() {
        RoadsByCows x = Check.made(BLANK, "a10;h80;a80");
        CHECK.due("three cells", x.road(), 3);
        CHECK.dueRow("three cells", x, Check.bits(0, 63, 56), 3, 1);
        drive(x, 0, 1, 2, 10);
        drive(x, 1, 62);
        CHECK.due("more", x.road(), 7);
        CHECK.dueRow("more", x, Check.bits(0, 1, 2, 10, 62, 63, 56), 3, 4);
        // Corners do not join, nor does the end of a row with the next one's beginning.
        RoadsByCows y = Check.made(BLANK, "h10;a20;c30;d40");
        CHECK.due("corners", y.road(), 4);
        CHECK.dueRow("corners", y, Check.bits(7, 8, 18, 27), 4, 1);
        RoadsByCows z = new RoadsByCows();
        CHECK.due("none", z.road(), 0);
        CHECK.dueRow("none", z, 0, 0, 0);
    }

    private static void roadIsKept() {
        RoadsByCows x = Check.made("0000", "a10");
        Check.rule(x, "m");
        x.hours(3);
        CHECK.due("KEEPS 12", x.road(), 4);
        x.set(0, 2);
        CHECK.due("KEEPS 2", x.road(), 3);
        CHECK.dueRow("KEEPS 2", x, Check.bits(1, 2, 3), 1, 3);
        x.set(0, 0);
        CHECK.due("KEEPS 0", x.road(), 1);
        CHECK.dueRow("KEEPS 0", x, Check.bits(3), 1, 1);
    }

    private static void squares() {
        RoadsByCows x = Check.made("000/000/000", "b20");
        CHECK.due("one cell", x.squares(), 0);
        CHECK.dueRow("one cell", x, 0);
        drive(x, 0, 1, 9, 8, 9, 10);
        CHECK.due("three beside", x.squares(), 1);
        CHECK.dueRow("three beside", x, Check.bits(9));
        drive(x, 0, 2, 1, 0);
        CHECK.due("four of ROAD with three beside", x.squares(), 2);
        CHECK.dueRow("four of ROAD with three beside", x, Check.bits(1, 9));
        drive(x, 0, 1, 9, 17);
        CHECK.due("four beside", x.squares(), 2);
        CHECK.dueRow("four beside", x, Check.bits(1, 9));
        RoadsByCows y = Check.made("000/000/000", "b10;a20;c20;b30");
        CHECK.due("b2 is no ROAD", y.squares(), 0);
        CHECK.dueRow("b2 is no ROAD", y, 0);
        drive(x, 0, 16, 8, 0, 1, 2, 10, 18);
        CHECK.due("eight and the middle", x.road(), 9);
        CHECK.due("all are ROAD", x.squares(), 5);
        CHECK.dueRow("all are ROAD", x, Check.bits(1, 8, 9, 10, 17));
    }

    private static void cart() {
        RoadsByCows x = Check.made("000/000/00#", "a10");
        CHECK.due("the same cell", x.cart(0, 0), 0);
        CHECK.dueRow("the same cell", x, 0);
        CHECK.due("no ROAD", x.cart(0, 1), -2);
        CHECK.due("no ROAD", x.cart(1, 0), -2);
        CHECK.due("no ROAD, the same", x.cart(1, 1), -2);
        CHECK.due("a FENCE", x.cart(0, 18), -2);
        CHECK.dueRow("they leave the ROW", x, 0);
        CHECK.due("no cell", x.cart(0, 3), -1);
        CHECK.due("no cell", x.cart(-1, 0), -1);
        CHECK.due("no cell, no ROAD", x.cart(1, 64), -1);
        drive(x, 0, 1, 2, 10, 9, 8, 0);
        CHECK.due("two ways", x.cart(0, 10), 3);
        CHECK.dueRow("the least row", x, 0, 1, 2, 10);
        CHECK.due("and back", x.cart(10, 0), 3);
        CHECK.dueRow("the least row back", x, 10, 2, 1, 0);
        CHECK.due("another", x.cart(8, 2), 3);
        CHECK.dueRow("the least row", x, 8, 0, 1, 2);
        CHECK.due("beside", x.cart(9, 10), 1);
        CHECK.dueRow("beside", x, 9, 10);
        Check.herds(x, "a30");
        drive(x, 1, 17);
        CHECK.due("by a cell beside", x.cart(16, 10), 3);
        CHECK.dueRow("by a cell beside", x, 16, 8, 9, 10);
        RoadsByCows y = Check.made("0000", "a10;d10");
        CHECK.due("two pieces", y.cart(0, 3), -2);
    }

    private static void cartIsLong() {
        // A way like a snake over three rows: 8 + 1 + 8 + 1 + 8 cells.
        RoadsByCows x = Check.made("00000000/#######0/00000000/0#######/00000000", "a10");
        drive(x, 0, 1, 2, 3, 4, 5, 6, 7, 15, 23, 22, 21, 20, 19, 18, 17, 16, 24, 32, 33, 34, 35, 36, 37, 38, 39);
        CHECK.due("25 steps", x.cart(0, 39), 25);
        CHECK.dueRow("the first 14", x, 0, 1, 2, 3, 4, 5, 6, 7, 15, 23, 22, 21, 20, 19);
        CHECK.due("13 steps", x.cart(0, 19), 13);
        CHECK.dueRow("just 14", x, 0, 1, 2, 3, 4, 5, 6, 7, 15, 23, 22, 21, 20, 19);
        CHECK.due("12 steps", x.cart(0, 20), 12);
        CHECK.due("13 cells", x.count(11), 13);
    }

    private static void joined() {
        RoadsByCows x = Check.made("00000", "a10;c10;e10;c10");
        CHECK.due("alone", x.joined(0), 1);
        CHECK.dueRow("alone", x, 1);
        CHECK.due("two at a cell", x.joined(1), 2 + 8);
        CHECK.dueRow("two at a cell", x, 1);
        drive(x, 0, 1);
        CHECK.due("three", x.joined(0), 1 + 2 + 8);
        CHECK.dueRow("three", x, 3);
        CHECK.due("the other", x.joined(2), 4);
        CHECK.due("none such", x.joined(4), -1);
        CHECK.due("none such", x.joined(-1), -1);
        CHECK.dueRow("they leave the ROW", x, 1);
    }

    private static void owners() {
        CHECK.due("no herds", Check.made("00", "").owners(), -2);
        RoadsByCows x = Check.made("00000", "a10;c10");
        CHECK.due("of equal ones the first", x.owners(), 0);
        CHECK.dueRow("of equal ones the first", x, 1, 1);
        drive(x, 1, 3, 4);
        CHECK.due("the second", x.owners(), 1);
        CHECK.dueRow("the second", x, 1, 3);
        drive(x, 0, 1, 2);
        CHECK.due("last is last", x.owners(), 0);
        CHECK.dueRow("last is last", x, 3, 2);
        Check.rule(x, "0");
        x.set(0, 0);
        x.hour();
        CHECK.due("ROAD cells alone", x.owners(), 0);
        CHECK.dueRow("ROAD cells alone", x, 1, 1);
        RoadsByCows y = Check.made("00", "a10;a10;a10");
        CHECK.due("the last at one cell", y.owners(), 2);
        CHECK.dueRow("the last at one cell", y, 0, 0, 1);
    }

    private static void least() {
        CHECK.due("no herds", Check.made("00", "").least(), -2);
        RoadsByCows x = Check.made("0000", "a10;d10");
        CHECK.due("with none", x.least(), -2);
        Check.rule(x, "0");
        drive(x, 0, 1);
        x.hour();
        drive(x, 0, 2);
        x.hours(2);
        // LAST: a1 0, b1 1, c1 3, d1 3; NOW 3.
        CHECK.due("side by side", x.least(), 0);
        CHECK.dueRow("side by side", x, 2);
        drive(x, 0, 1, 0);
        x.hour();
        // LAST: a1 4, b1 3, c1 3, d1 4; NOW 4.
        CHECK.due("by cells of the HOUR ahead", x.least(), 1);
        CHECK.dueRow("by cells of the HOUR ahead", x, 4);
        x.hours(5);
        CHECK.due("whatever KEEPS is", x.set(0, 0), 12);
        CHECK.due("older", x.least(), 6);
        CHECK.dueRow("older", x, 4);
        CHECK.due("one herd", Check.made("0", "a10").least(), 0);
    }

    private static void leastGrowsOld() {
        RoadsByCows x = Check.made("000", "a10;c10");
        Check.rule(x, "0");
        drive(x, 0, 1, 0);
        x.hours(60);
        x.hours(39);
        CHECK.due("99", x.least(), 99);
        CHECK.dueRow("99", x, 3);
        x.hour();
        CHECK.due("not with 100", x.least(), -2);
    }

    private static void furthest() {
        RoadsByCows x = Check.made("000/000/000", "b20");
        CHECK.due("itself", x.furthest(9), 9);
        CHECK.dueRow("itself", x, 0);
        CHECK.due("no ROAD", x.furthest(8), -2);
        CHECK.due("none such", x.furthest(3), -1);
        CHECK.due("none such", x.furthest(-1), -1);
        CHECK.dueRow("they leave the ROW", x, 0);
        drive(x, 0, 1, 0, 1, 2);
        CHECK.due("of equal ones the first", x.furthest(9), 0);
        CHECK.dueRow("of equal ones the first", x, 2);
        CHECK.due("from an end", x.furthest(0), 2);
        CHECK.dueRow("from an end: c1 before b2, both 2 steps", x, 2);
        drive(x, 0, 10, 18);
        CHECK.due("by ROAD alone", x.furthest(0), 18);
        CHECK.dueRow("by ROAD alone", x, 4);
        Check.herds(x, "a30");
        CHECK.due("another piece is not to be reached", x.furthest(0), 18);
    }
}
