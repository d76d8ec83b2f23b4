/** The boundary cases of promises 19 to 31: the road as it is, and hours to come. */
public final class RoadEdgesTest {
    private static final Check CHECK = new Check();
    private static final String BLANK = "00000000/00000000/00000000/00000000/00000000/00000000/00000000/00000000";
    /** One way of 36 cells, from a1 to a8. */
    private static final String SNAKE = "00000000/#######0/00000000/0#######/00000000/#######0/00000000/0#######";
    private static final long CORNERS = Check.bits(0, 7, 56, 63);

    public static void main(String[] args) {
        roadOfNoneAndAll();
        pieces();
        squares();
        cartRow();
        cartCannot();
        joined();
        owners();
        least();
        furthest();
        whereNow();
        roadinNow();
        market();
        trodden();
        meets();
        round();
        CHECK.close("RoadEdgesTest");
    }

    /** A herd that went over every cell of a meadow from a1 on, all of which are ROAD. */
    private static RoadsByCows trodAll() {
        RoadsByCows x = Check.made(BLANK, "a10");
        x.set(0, 99);
        x.set(1, 99);
        Check.rule(x, "m*(1-r)");
        x.hours(60);
        x.hours(3);
        return x;
    }

    private static RoadsByCows snake() {
        RoadsByCows x = Check.made(SNAKE, "a10");
        x.set(0, 99);
        Check.rule(x, "m*(1-r)");
        x.hours(35);
        return x;
    }

    /** Promise 19: no cell, one, all 64. */
    private static void roadOfNoneAndAll() {
        RoadsByCows none = Check.made(BLANK, "");
        CHECK.due("none", none.road(), 0);
        CHECK.dueRow("none", none, 0, 0, 0);
        RoadsByCows one = Check.made(BLANK, "h80");
        CHECK.due("one", one.road(), 1);
        CHECK.dueRow("one", one, Long.MIN_VALUE, 1, 1);
        RoadsByCows all = trodAll();
        CHECK.due("all", all.road(), 64);
        CHECK.dueRow("all", all, -1, 1, 64);
        RoadsByCows long36 = snake();
        CHECK.due("one way", long36.road(), 36);
        CHECK.due("one way: one piece", Check.row(long36, 1), 1);
        CHECK.due("one way: one piece", Check.row(long36, 2), 36);
    }

    /** Promise 19: "in how many pieces (cells side by side)": not by corners, not round the edges. */
    private static void pieces() {
        RoadsByCows x = Check.made(BLANK, "a10;b20;h10;a30;h80;a80");
        CHECK.due("six", x.road(), 6);
        CHECK.dueRow("six", x, Check.bits(0, 9, 7, 16, 63, 56), 6, 1);
        x.drive(0, 1);
        CHECK.due("side by side", x.road(), 7);
        CHECK.dueRow("side by side", x, Check.bits(0, 1, 9, 7, 16, 63, 56), 5, 3);
        RoadsByCows y = Check.made("0000", "a10;a10;d10");
        y.drive(2, 2);
        CHECK.due("two of one size and less", y.road(), 3);
        CHECK.dueRow("the largest", y, Check.bits(0, 2, 3), 2, 2);
    }

    /** Promise 20: "beside which (n, e, s, w) three or four are ROAD". */
    private static void squares() {
        int[][] sides = {{}, {1}, {1, 10}, {1, 10, 17}, {1, 10, 17, 8}, {10, 17, 8}, {1, 17, 8}, {1, 10, 8}, {1, 17}, {10, 8}};
        for (int[] beside : sides) {
            RoadsByCows x = Check.made("000/000/000", "b20");
            for (int cell : beside) {
                x.drive(0, cell);
                x.drive(0, 9);
            }
            boolean is = beside.length >= 3;
            CHECK.due(beside.length + " beside", x.squares(), is ? 1 : 0);
            CHECK.dueRow(beside.length + " beside", x, is ? Check.bits(9) : 0);
        }
        RoadsByCows all = trodAll();
        CHECK.due("all but the corners", all.squares(), 60);
        CHECK.dueRow("all but the corners", all, ~CORNERS);
    }

    /** Promise 21: "the cells in turn, both too (the first 14): of as few the least row". */
    private static void cartRow() {
        RoadsByCows x = trodAll();
        CHECK.due("to the same", x.cart(63, 63), 0);
        CHECK.dueRow("to the same", x, 63);
        CHECK.due("12 steps", x.cart(0, 54), 12);
        CHECK.dueRow("13 cells", x, 0, 1, 2, 3, 4, 5, 6, 14, 22, 30, 38, 46, 54);
        CHECK.due("13 steps", x.cart(0, 55), 13);
        CHECK.dueRow("14 cells", x, 0, 1, 2, 3, 4, 5, 6, 7, 15, 23, 31, 39, 47, 55);
        CHECK.due("14 steps", x.cart(0, 63), 14);
        CHECK.dueRow("the first 14 of 15", x, 0, 1, 2, 3, 4, 5, 6, 7, 15, 23, 31, 39, 47, 55);
        CHECK.due("14 steps back", x.cart(63, 0), 14);
        CHECK.dueRow("north before west", x, 63, 55, 47, 39, 31, 23, 15, 7, 6, 5, 4, 3, 2, 1);
        CHECK.due("from h1", x.cart(7, 56), 14);
        CHECK.dueRow("west before south", x, 7, 6, 5, 4, 3, 2, 1, 0, 8, 16, 24, 32, 40, 48);
        CHECK.due("from a8", x.cart(56, 7), 14);
        CHECK.dueRow("north before east", x, 56, 48, 40, 32, 24, 16, 8, 0, 1, 2, 3, 4, 5, 6);
        RoadsByCows y = snake();
        CHECK.due("35 steps", y.cart(0, 56), 35);
        CHECK.dueRow("the first 14 of 36", y, 0, 1, 2, 3, 4, 5, 6, 7, 15, 23, 22, 21, 20, 19);
        CHECK.due("35 steps back", y.cart(56, 0), 35);
        CHECK.dueRow("the first 14 of 36", y, 56, 48, 49, 50, 51, 52, 53, 54, 55, 47, 39, 38, 37, 36);
    }

    /** Promise 21: "-2: it can't be, or one is no ROAD; NONE: none such". */
    private static void cartCannot() {
        RoadsByCows x = Check.made("00#+0", "a10;e10");
        int[] cells = {-1, 0, 1, 2, 3, 4, 5, 8, 64};
        for (int from : cells) {
            for (int to : cells) {
                boolean there = from >= 0 && from < 5 && to >= 0 && to < 5;
                boolean same = from == to && (from == 0 || from == 4);
                CHECK.due("cart(" + from + ", " + to + ")", x.cart(from, to), !there ? -1 : same ? 0 : -2);
            }
        }
        x.drive(0, 1);
        CHECK.due("beside", x.cart(0, 1), 1);
        // What grasses over is no ROAD: with KEEPS HOURS, and one more.
        Check.rule(x, "0");
        x.hours(12);
        CHECK.due("KEEPS HOURS", x.cart(0, 1), 1);
        x.hour();
        CHECK.due("one more", x.cart(0, 1), -2);
    }

    /** Promise 22: "NONE: none such"; a herd's own cell is ROAD with KEEPS 0 too. */
    private static void joined() {
        RoadsByCows x = Check.made("000000", "a10;b10;d10;f10");
        x.set(0, 0);
        Check.rule(x, "0");
        x.hours(60);
        int[] due = {3, 3, 4, 8};
        int[] sizes = {2, 2, 1, 1};
        for (int herd = 0; herd < 4; herd++) {
            CHECK.due("joined(" + herd + ")", x.joined(herd), due[herd]);
            CHECK.dueRow("joined(" + herd + ")", x, sizes[herd]);
        }
        for (int herd : new int[] {Integer.MIN_VALUE, -1, 4, 5, 6, Integer.MAX_VALUE}) {
            CHECK.due("joined(" + herd + ")", x.joined(herd), -1);
        }
        RoadsByCows y = Check.made(BLANK, "a10;h80");
        CHECK.due("far off", y.joined(0), 1);
    }

    /** Promise 23: "of equal ones the first"; "-2: there are no herds". */
    private static void owners() {
        CHECK.due("no herds", Check.made(BLANK, "").owners(), -2);
        RoadsByCows x = Check.made(BLANK, "a10;c10;e10;a30;c30;e30");
        CHECK.due("six equal ones", x.owners(), 0);
        CHECK.dueRow("six equal ones", x, 1, 1, 1, 1, 1, 1);
        x.drive(5, 21);
        CHECK.due("the last", x.owners(), 5);
        CHECK.dueRow("the last", x, 1, 1, 1, 1, 1, 2);
        x.drive(3, 17);
        CHECK.due("an equal one ahead of it", x.owners(), 3);
        CHECK.dueRow("an equal one ahead of it", x, 1, 1, 1, 2, 1, 2);
        RoadsByCows all = trodAll();
        CHECK.due("all", all.owners(), 0);
        CHECK.dueRow("all", all, 64);
    }

    /** Promise 24: "The least KEEPS (0 .. 99) .. -2: with none; there are no herds". */
    private static void least() {
        CHECK.due("no cells", new RoadsByCows().least(), -2);
        CHECK.due("no herds", Check.made("0", "").least(), -2);
        for (String one : new String[] {"a10", "h10", "d40", "h80"}) {
            RoadsByCows x = Check.made(BLANK, one);
            CHECK.due("one herd, " + one, x.least(), 0);
            CHECK.dueRow("one herd, " + one, x, 1);
        }
        for (int old : new int[] {0, 1, 2, 59, 60, 98, 99, 100, 101}) {
            RoadsByCows x = Check.made("000", "b10;c10");
            Check.rule(x, "0");
            x.drive(0, 0);
            int left = old;
            while (left > 0) {
                int n = Math.min(60, left);
                x.hours(n);
                left -= n;
            }
            CHECK.due("trodden " + old + " HOURS ago", x.least(), old <= 99 ? old : -2);
            if (old <= 99) {
                CHECK.dueRow("trodden " + old + " HOURS ago", x, 3);
            } else {
                CHECK.dueRow("that leaves the ROW of hours()", x, 0, 2);
            }
            CHECK.due("KEEPS is as it was", x.count(7), 12);
        }
    }

    /** Promise 25: "of equal ones the first .. -2: that cell is no ROAD; NONE: none such". */
    private static void furthest() {
        RoadsByCows x = snake();
        CHECK.due("35 steps", x.furthest(0), 56);
        CHECK.dueRow("35 steps", x, 35);
        CHECK.due("35 steps back", x.furthest(56), 0);
        CHECK.dueRow("35 steps back", x, 35);
        CHECK.due("16 to the one end, 19 to the other", x.furthest(16), 56);
        CHECK.dueRow("16 to the one end, 19 to the other", x, 19);
        CHECK.due("a FENCE", x.furthest(8), -2);
        CHECK.due("none such", x.furthest(64), -1);
        CHECK.due("none such", x.furthest(-1), -1);
        RoadsByCows all = trodAll();
        CHECK.due("from a1", all.furthest(0), 63);
        CHECK.dueRow("from a1", all, 14);
        CHECK.due("from h8", all.furthest(63), 0);
        RoadsByCows y = Check.made("000", "b10");
        CHECK.due("itself alone", y.furthest(1), 1);
        CHECK.dueRow("itself alone", y, 0);
        y.drive(0, 2);
        y.drive(0, 1);
        y.drive(0, 0);
        CHECK.due("of equal ones the first", y.furthest(1), 0);
        CHECK.dueRow("of equal ones the first", y, 1);
    }

    /** Promise 26: "in n HOURS (0 .. 100)": n 0 is now. */
    private static void whereNow() {
        RoadsByCows x = Check.made("000", "a10;c10");
        CHECK.due("it lies", x.where(1, 0), 2);
        CHECK.dueRow("it lies", x, 1, 2);
        x.drive(1, 1);
        CHECK.due("it was driven", x.where(1, 0), 1);
        CHECK.dueRow("it was driven", x, 0, 3);
        Check.rule(x, "(k=100)*m*(i=1)");
        CHECK.due("behind 99", x.where(1, 99), 1);
        CHECK.dueRow("behind 99", x, 1, 2);
        CHECK.due("behind 100", x.where(1, 100), 2);
        CHECK.dueRow("behind 100", x, 0, 3);
        for (int n : new int[] {Integer.MIN_VALUE, -1, 101, Integer.MAX_VALUE}) {
            CHECK.due("where(1, " + n + ")", x.where(1, n), -1);
        }
        for (int herd : new int[] {Integer.MIN_VALUE, -1, 2, 6, Integer.MAX_VALUE}) {
            CHECK.due("where(" + herd + ", 0)", x.where(herd, 0), -1);
        }
    }

    /** Promise 27: "in n HOURS (0 .. 100) .. those that are ROAD now and not then". */
    private static void roadinNow() {
        RoadsByCows x = Check.made("00", "a10");
        Check.rule(x, "0");
        x.drive(0, 1);
        CHECK.due("now", x.roadin(0), 2);
        CHECK.dueRow("now", x, 3, 0);
        CHECK.due("in 12", x.roadin(12), 2);
        CHECK.dueRow("in 12", x, 3, 0);
        CHECK.due("in 13", x.roadin(13), 1);
        CHECK.dueRow("in 13", x, 2, 1);
        CHECK.due("in 100", x.roadin(100), 1);
        CHECK.dueRow("in 100", x, 2, 1);
        for (int n : new int[] {Integer.MIN_VALUE, -1, 101, Integer.MAX_VALUE}) {
            CHECK.due("roadin(" + n + ")", x.roadin(n), -1);
        }
        RoadsByCows all = trodAll();
        Check.rule(all, "0");
        CHECK.due("all in 36: a1 was trodden 99 ago", all.roadin(36), 64);
        CHECK.due("all but a1 in 37", all.roadin(37), 63);
        CHECK.dueRow("all but a1 in 37", all, ~1L, 1);
    }

    /** Promise 28: "of the next n HOURS (1 .. 100) .. (1 ..; NONE, NONE), the most of them one behind another". */
    private static void market() {
        RoadsByCows x = Check.made("00", "a10");
        Check.rule(x, "0");
        CHECK.due("one HOUR", x.market(0, 1), 1);
        CHECK.dueRow("one HOUR", x, 1, 1, 1);
        CHECK.due("each of 100", x.market(0, 100), 100);
        CHECK.dueRow("each of 100", x, 1, 100, 100);
        CHECK.due("none of 100", x.market(1, 100), 0);
        CHECK.dueRow("none of 100", x, -1, -1, 0);
        Check.rule(x, "(k=100)*m");
        CHECK.due("the last of 100", x.market(1, 100), 1);
        CHECK.dueRow("the last of 100", x, 100, 100, 1);
        CHECK.due("none of 99", x.market(1, 99), 0);
        CHECK.dueRow("none of 99", x, -1, -1, 0);
        for (int n : new int[] {Integer.MIN_VALUE, -1, 0, 101, Integer.MAX_VALUE}) {
            CHECK.due("market(0, " + n + ")", x.market(0, n), -1);
        }
        for (int cell : new int[] {Integer.MIN_VALUE, -1, 2, 8, 64, Integer.MAX_VALUE}) {
            CHECK.due("market(" + cell + ", 1)", x.market(cell, 1), -1);
        }
        // The HOUR that is now is not of them: b1 is ROAD now with KEEPS 0, and then no more.
        RoadsByCows y = Check.made("00", "a10");
        Check.rule(y, "0");
        y.set(0, 0);
        y.drive(0, 1);
        CHECK.due("a1 is ROAD now alone", y.market(0, 5), 0);
        CHECK.dueRow("a1 is ROAD now alone", y, -1, -1, 0);
        // Two runs: the longer one is the first, then the last.
        Check.rule(y, "(k=3)*m+(k=4)*m+(k=6)*m");
        CHECK.due("1 2 4 5", y.market(1, 6), 4);
        CHECK.dueRow("1 2, 4 5", y, 1, 5, 2);
        CHECK.due("a1: 3, 6 7 8", y.market(0, 8), 4);
        CHECK.dueRow("a1: 3, 6 7 8", y, 3, 8, 3);
        CHECK.due("b1 of 8", y.market(1, 8), 4);
        CHECK.dueRow("b1 of 8", y, 1, 5, 2);
    }

    /** Promise 29: "In how many HOURS (0 .. 100) .. (0: a herd is at it) .. -2: not in these; NONE: none such". */
    private static void trodden() {
        for (int hour : new int[] {1, 2, 99, 100, 101}) {
            RoadsByCows x = Check.made("00", "a10;a10");
            Check.rule(x, "(k=" + hour + ")*m");
            CHECK.due("in HOUR " + hour, x.trodden(1), hour <= 100 ? hour : -2);
            CHECK.due("in HOUR " + hour + ": the ROW", x.count(11), hour <= 100 ? 1 : 0);
            CHECK.due("now", x.trodden(0), 0);
            CHECK.dueRow("now: by the first", x, 0);
        }
        // What was trodden now, and left, is not trodden till a herd is at it again.
        RoadsByCows y = Check.made("00", "a10");
        Check.rule(y, "0");
        y.drive(0, 1);
        CHECK.due("left", y.trodden(0), -2);
        for (int cell : new int[] {Integer.MIN_VALUE, -1, 2, 8, 64, Integer.MAX_VALUE}) {
            CHECK.due("trodden(" + cell + ")", y.trodden(cell), -1);
        }
    }

    /** Promise 30: "In how many HOURS (0 .. 100) .. -2: not in these; there are no herds". */
    private static void meets() {
        CHECK.due("no cells", new RoadsByCows().meets(), -2);
        CHECK.due("no herds", Check.made("00", "").meets(), -2);
        for (String one : new String[] {"a10", "h10", "d40", "h80"}) {
            RoadsByCows x = Check.made(BLANK, one);
            CHECK.due("one herd, " + one, x.meets(), 0);
            CHECK.dueRow("one herd, " + one, x, 1);
        }
        for (int hour : new int[] {1, 2, 99, 100, 101}) {
            RoadsByCows x = Check.made("000", "a10;c10");
            Check.rule(x, "(k=" + hour + ")*m*(i=0)");
            CHECK.due("in HOUR " + hour, x.meets(), hour <= 100 ? hour : -2);
            if (hour <= 100) {
                CHECK.dueRow("in HOUR " + hour, x, 3);
            } else {
                CHECK.dueRow("in HOUR " + hour, x);
            }
        }
    }

    /** Promise 31: "In how many HOURS (1 .. 100)": 1 at least, 64 at most, as there are no more cells. */
    private static void round() {
        RoadsByCows x = Check.made("0", "a10");
        CHECK.due("it stays", x.round(0), 1);
        CHECK.dueRow("it stays", x, 0, 1);
        RoadsByCows y = Check.made(BLANK, "a10");
        y.set(0, 99);
        y.set(1, 99);
        Check.rule(y, "m*(1-r)");
        CHECK.due("over all cells, and then it stays", y.round(0), 64);
        CHECK.dueRow("over all cells, and then it stays at a2", y, 8, 1);
        Check.rule(y, "m*(1-r)+(k=64)*m");
        CHECK.due("over all cells, and back to a1", y.round(0), 64);
        CHECK.dueRow("over all cells, and back to a1", y, 0, 64);
        RoadsByCows z = Check.made("00", "a10;b10*");
        Check.rule(z, "m");
        CHECK.due("to and fro", z.round(0), 2);
        CHECK.dueRow("to and fro", z, 0, 2);
        CHECK.due("a slow one stays", z.round(1), 1);
        CHECK.dueRow("a slow one stays", z, 1, 1);
        for (int herd : new int[] {Integer.MIN_VALUE, -1, 2, 6, Integer.MAX_VALUE}) {
            CHECK.due("round(" + herd + ")", z.round(herd), -1);
        }
    }
}
