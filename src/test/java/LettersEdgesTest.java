/** The boundary cases of promises 35 and 37 to 45: ways, lost cows, letters, winter, seasons, what is kept. */
public final class LettersEdgesTest {
    private static final Check CHECK = new Check();
    private static final int MOST = Integer.MAX_VALUE;
    private static final int LEAST = Integer.MIN_VALUE;
    private static final int[] NO_CELLS = {LEAST, -8, -1, 3, 7, 11, 16, 63, 64, 65, MOST};

    public static void main(String[] args) {
        waysOfNoneToTwenty();
        waysAtMost();
        waysByRoad();
        lostHours();
        lostShares();
        lostAndGates();
        letterInTime();
        letterTaken();
        snow();
        thaw();
        seasonHours();
        seasonDraws();
        seasonOnFencesAndGates();
        keep();
        again();
        herdsCameSince();
        count();
        row();
        CHECK.close("LettersEdgesTest");
    }

    /** A herd that was driven over all cells of a meadow without FENCES. */
    private static RoadsByCows trodden(int columns, int rows) {
        RoadsByCows x = Check.made(("0".repeat(columns) + "/").repeat(rows).substring(0, (columns + 1) * rows - 1), "a10");
        for (int y = 0; y < rows; y++) {
            for (int i = y == 0 ? 1 : 0; i < columns; i++) {
                x.drive(0, 8 * y + (y % 2 == 0 ? i : columns - 1 - i));
            }
        }
        CHECK.due("all are ROAD", x.road(), columns * rows);
        return x;
    }

    /** Promise 35: "Ways of just k steps (0 .. 20) .. (NONE: k 0, no way). NONE: others". */
    private static void waysOfNoneToTwenty() {
        RoadsByCows x = trodden(2, 1);
        for (int k = -2; k <= 22; k++) {
            boolean can = k >= 0 && k <= 20;
            CHECK.due("a1 to a1 by " + k, x.ways(0, 0, k), !can ? -1 : k % 2 == 0 ? 1 : 0);
            if (can) {
                CHECK.dueRow("a1 to a1 by " + k, x, k > 0 && k % 2 == 0 ? 1 : -1);
            }
            CHECK.due("a1 to b1 by " + k, x.ways(0, 1, k), !can ? -1 : k % 2 == 1 ? 1 : 0);
            if (can) {
                CHECK.dueRow("a1 to b1 by " + k, x, k % 2 == 1 ? 1 : -1);
            }
        }
        CHECK.due("b1 to a1 by 1", x.ways(1, 0, 1), 1);
        CHECK.dueRow("b1 to a1 by 1: the first cell is the next", x, 0);
        CHECK.due("b1 to b1 by 20", x.ways(1, 1, 20), 1);
        CHECK.dueRow("b1 to b1 by 20", x, 0);
        CHECK.due("k most", x.ways(0, 0, MOST), -1);
        CHECK.due("k least", x.ways(0, 0, LEAST), -1);
        RoadsByCows y = trodden(3, 2);
        for (int cell : NO_CELLS) {
            CHECK.due("ways(" + cell + ", 0, 2)", y.ways(cell, 0, 2), -1);
            CHECK.due("ways(0, " + cell + ", 2)", y.ways(0, cell, 2), -1);
            CHECK.due("ways(" + cell + ", " + cell + ", 0)", y.ways(cell, cell, 0), -1);
        }
    }

    /** Promise 35: "how many (1000000 at most)"; the numbers are those of a program of another language. */
    private static void waysAtMost() {
        RoadsByCows x = trodden(5, 3);
        CHECK.due("990990", x.ways(0, 9, 14), 990990);
        CHECK.dueRow("990990", x, 1);
        CHECK.due("990990 back", x.ways(9, 0, 14), 990990);
        CHECK.due("far more", x.ways(0, 9, 16), 1000000);
        CHECK.due("far more", x.ways(0, 9, 20), 1000000);
        CHECK.dueRow("far more", x, 1);
        CHECK.due("odd", x.ways(0, 9, 19), 0);
        RoadsByCows y = trodden(8, 2);
        CHECK.due("960402", y.ways(1, 9, 15), 960402);
        CHECK.due("1000831 is above", y.ways(1, 4, 15), 1000000);
        RoadsByCows z = trodden(4, 3);
        CHECK.due("1006069 is above", z.ways(1, 17, 14), 1000000);
    }

    /** Promise 35: "by ROAD cells": a cell that is none has no ways, and is on none. */
    private static void waysByRoad() {
        RoadsByCows x = Check.made("000", "a10;c10");
        for (int k = 0; k <= 4; k++) {
            CHECK.due("to b1 by " + k, x.ways(0, 1, k), 0);
            CHECK.dueRow("to b1 by " + k, x, -1);
            CHECK.due("from b1 by " + k, x.ways(1, 0, k), 0);
            CHECK.dueRow("from b1 by " + k, x, -1);
            CHECK.due("over b1 by " + k, x.ways(0, 2, k), 0);
            CHECK.dueRow("over b1 by " + k, x, -1);
            CHECK.due("b1 to itself by " + k, x.ways(1, 1, k), 0);
            CHECK.dueRow("b1 to itself by " + k, x, -1);
        }
        CHECK.due("a1 to itself by 0", x.ways(0, 0, 0), 1);
        CHECK.due("a1 to itself by 2", x.ways(0, 0, 2), 0);
    }

    /** Promise 37: "in n HOURS (0 .. 40) .. NONE: others". */
    private static void lostHours() {
        RoadsByCows x = Check.made("0", "");
        for (int n : new int[] {LEAST, -1, 0, 1, 39, 40, 41, MOST}) {
            boolean can = n >= 0 && n <= 40;
            CHECK.due("lost(0, 0, " + n + ")", x.lost(0, 0, n), can ? 1000000 : -1);
        }
        CHECK.dueRow("one cell", x, 0);
        RoadsByCows y = Check.made("000/000", "");
        for (int cell : NO_CELLS) {
            CHECK.due("lost(" + cell + ", 0, 1)", y.lost(cell, 0, 1), -1);
            CHECK.due("lost(0, " + cell + ", 1)", y.lost(0, cell, 1), -1);
        }
        CHECK.dueRow("they leave the ROW", y);
        CHECK.due("now", y.lost(10, 10, 0), 1000000);
        CHECK.dueRow("now", y, 10);
        CHECK.due("now, elsewhere", y.lost(10, 2, 0), 0);
        CHECK.dueRow("now, elsewhere", y, 10);
    }

    /** Promise 37: "in millionths, each share cut; the ROW: .. the likeliest (the first)". */
    private static void lostShares() {
        // Two cells: halves for ever.
        RoadsByCows x = Check.made("00", "");
        CHECK.due("in 1", x.lost(1, 0, 1), 500000);
        CHECK.dueRow("of equal ones the first", x, 0);
        CHECK.due("in 40", x.lost(1, 0, 40), 500000);
        // Three in a row: behind each HOUR shares of 2, 3 and 2 parts, each cut.
        long[] share = {1000000, 0, 0};
        RoadsByCows y = Check.made("000", "");
        for (int n = 0; n <= 40; n++) {
            int best = 0;
            for (int cell = 0; cell < 3; cell++) {
                CHECK.due("three cells, in " + n, y.lost(0, cell, n), share[cell]);
                best = share[cell] > share[best] ? cell : best;
            }
            CHECK.dueRow("three cells, in " + n, y, best);
            long a = share[0] / 2;
            long b = share[1] / 3;
            long c = share[2] / 2;
            share = new long[] {a + b, a + b + c, b + c};
        }
        // Five parts in the middle, 200000 each; at a corner three.
        RoadsByCows z = Check.made("000/000/000", "");
        CHECK.due("five parts", z.lost(9, 9, 1), 200000);
        CHECK.due("five parts", z.lost(9, 17, 1), 200000);
        CHECK.dueRow("the first of five", z, 1);
        CHECK.due("not by corners", z.lost(9, 0, 1), 0);
        CHECK.due("three parts", z.lost(18, 18, 1), 333333);
        CHECK.dueRow("the first of three", z, 10);
    }

    /** Promise 37: "(no FENCES, no GATES that are shut)", "NONE: .. it begins at a FENCE or a GATE that is shut". */
    private static void lostAndGates() {
        RoadsByCows x = Check.made("0+#", "");
        for (int n : new int[] {0, 1, 40}) {
            CHECK.due("from a GATE that is shut, in " + n, x.lost(1, 1, n), -1);
            CHECK.due("from a FENCE, in " + n, x.lost(2, 2, n), -1);
            CHECK.due("to a GATE that is shut, in " + n, x.lost(0, 1, n), 0);
            CHECK.due("to a FENCE, in " + n, x.lost(0, 2, n), 0);
        }
        x.gate(0, 1);
        CHECK.due("from a GATE that is open, now", x.lost(1, 1, 0), 1000000);
        CHECK.due("from a GATE that is open", x.lost(1, 0, 1), 500000);
        CHECK.due("to a GATE that is open", x.lost(0, 1, 1), 500000);
        CHECK.due("a FENCE beyond", x.lost(1, 2, 1), 0);
        x.gate(0, 0);
        CHECK.due("it is shut again", x.lost(1, 1, 0), -1);
    }

    /** Promise 38: "in how many HOURS it is left (1 .. 100) .. -2: not in these; NONE: none such". */
    private static void letterInTime() {
        for (int hour : new int[] {1, 2, 50, 98, 99, 100, 101}) {
            // It comes in that HOUR, and lies in the next.
            RoadsByCows x = Check.made("00", "a10");
            Check.rule(x, "(k=" + hour + ")*m");
            CHECK.due("it comes in HOUR " + hour, x.letter(1), hour < 100 ? hour + 1 : -2);
            if (hour < 100) {
                CHECK.dueRow("it comes in HOUR " + hour, x, 0, 1);
            } else {
                CHECK.dueRow("it comes in HOUR " + hour, x);
            }
        }
        for (int hour : new int[] {1, 2, 99, 100, 101}) {
            // It is there now, and lies first in that HOUR.
            RoadsByCows x = Check.made("00", "a10");
            Check.rule(x, "(k<" + hour + ")*m");
            CHECK.due("it lies in HOUR " + hour, x.letter(0), hour <= 100 ? hour : -2);
        }
        RoadsByCows y = Check.made("000/000", "a10");
        for (int cell : NO_CELLS) {
            CHECK.due("letter(" + cell + ")", y.letter(cell), -1);
        }
        CHECK.due("no herds", Check.made("00", "").letter(0), -2);
        CHECK.due("a FENCE", Check.made("0#", "a10").letter(1), -2);
    }

    /** Promise 38: "(One that is at it now takes it now; of several the first.)" */
    private static void letterTaken() {
        // Herd 1 is at a1 too, and lies at once; but herd 0 takes it, and lies in HOUR 3.
        RoadsByCows x = Check.made("000", "a10;a10");
        Check.rule(x, "(i=0)*(k<3)*m");
        CHECK.due("of several the first", x.letter(0), 3);
        CHECK.dueRow("of several the first", x, 0, 2);
        // One that lies now does not leave it now, but when it lies next.
        RoadsByCows y = Check.made("00", "a10");
        Check.rule(y, "0");
        CHECK.due("it lies now", Check.herd(y, 0, 3), 1);
        CHECK.due("and next in HOUR 1", y.letter(0), 1);
        CHECK.dueRow("and next in HOUR 1", y, 0, 0);
        // Two come in one HOUR: the first of them.
        RoadsByCows z = Check.made("000", "a10;c10");
        Check.rule(z, "(k=1)*m+(k<4)*(i=0)*m*2");
        CHECK.due("two come", z.letter(1), 4);
        CHECK.due("the first of them", Check.row(z, 0), 0);
    }

    /** Promise 39: "ROAD is kept as it is now: how many cells". */
    private static void snow() {
        CHECK.due("no cells", new RoadsByCows().snow(), 0);
        CHECK.due("no herds", Check.made("00", "").snow(), 0);
        RoadsByCows x = trodden(8, 8);
        CHECK.due("all", x.snow(), 64);
        x.set(0, 0);
        Check.rule(x, "0");
        x.hour();
        CHECK.due("all but one", x.thaw(), 63);
        // The herd ends at a8.
        CHECK.dueRow("all but one", x, ~(1L << 56), 0);
        CHECK.due("snow again", x.snow(), 1);
        CHECK.due("as it is now", x.thaw(), 0);
        x.set(0, 99);
        CHECK.due("none is gone", x.thaw(), 0);
        CHECK.dueRow("63 are new", x, 0, ~(1L << 56));
    }

    /** Promise 40: "-2: it did not snow". */
    private static void thaw() {
        RoadsByCows x = new RoadsByCows();
        CHECK.due("new", x.thaw(), -2);
        CHECK.dueRow("new", x);
        x.snow();
        CHECK.due("it snowed", x.thaw(), 0);
        Check.meadow(x, "?");
        CHECK.due("a refused meadow()", x.thaw(), 0);
        Check.meadow(x, "00");
        CHECK.due("meadow()", x.thaw(), -2);
        Check.herds(x, "a10");
        x.snow();
        x.keep(0);
        Check.herds(x, "b10");
        CHECK.due("herds() leaves it", x.thaw(), 0);
        CHECK.dueRow("b1 came", x, 0, 2);
        x.keep(0);
        x.again(0);
        CHECK.due("again() leaves it", x.thaw(), 0);
        CHECK.dueRow("b1 came", x, 0, 2);
    }

    /** Promise 41: "n HOURS (1 .. 60) .. NONE: another n, no cells". */
    private static void seasonHours() {
        RoadsByCows x = Check.made("0", "a10;a10");
        for (int n : new int[] {LEAST, -1, 0, 1, 2, 59, 60, 61, 100, MOST}) {
            boolean can = n >= 1 && n <= 60;
            for (int seed : new int[] {LEAST, -1, 0, 1, MOST}) {
                CHECK.due("season(" + seed + ", " + n + ")", x.season(seed, n), can ? 0 : -1);
                CHECK.due("season(" + seed + ", " + n + ") without cells", new RoadsByCows().season(seed, n), -1);
            }
        }
        CHECK.dueRow("where each is", x, 0, 0);
        RoadsByCows y = Check.made("00", "a10;b10");
        Check.rule(y, "m");
        CHECK.due("each of 60", y.season(1, 60), 120);
        CHECK.dueRow("each of 60", y, 0, 1);
        CHECK.due("NOW", y.count(6), 0);
        RoadsByCows z = Check.made("00", "");
        CHECK.due("no herds", z.season(1, 60), 0);
        CHECK.dueRow("no herds", z);
    }

    /** Promise 41: a herd in the middle goes where flies are: the DRAW of each seed is seen in the ROW. */
    private static void seasonDraws() {
        int[][] sizes = {{3, 3}, {3, 8}, {8, 3}, {5, 4}, {8, 8}};
        int[] seeds = {LEAST, LEAST + 1, -12345, -65536, -2, -1, 0, 1, 2, 3, 65535, 65536, 1103515245, MOST - 1, MOST};
        for (int[] size : sizes) {
            RoadsByCows x = Check.made(("0".repeat(size[0]) + "/").repeat(size[1]).substring(0, (size[0] + 1) * size[1] - 1), "b20");
            Check.rule(x, "(t=9)*m");
            for (int seed : seeds) {
                CHECK.due("seed " + seed, x.season(seed, 1), drawn(seed, size) == 9 ? 0 : isBeside(drawn(seed, size)) ? 1 : 0);
                CHECK.dueRow("seed " + seed, x, isBeside(drawn(seed, size)) ? drawn(seed, size) : 9);
            }
        }
        // Seeds one by one: each of nine cells is drawn by some.
        long seen = 0;
        RoadsByCows y = Check.made("000/000/000", "b20");
        Check.rule(y, "(t=9)*m");
        for (int seed = 0; seed < 100; seed++) {
            y.season(seed, 1);
            seen |= 1L << Check.row(y, 0);
        }
        CHECK.due("all sides and the middle", seen, Check.bits(1, 8, 9, 10, 17));
    }

    /** R = seed times 1103515245 + 12345, without sign by 65536, % n, as it is told. */
    private static int drawn(int seed, int[] size) {
        long r = (seed * 1103515245L + 12345L) & 0xFFFFFFFFL;
        int told = (int) ((r / 65536) % (size[0] * size[1]));
        return 8 * (told / size[0]) + told % size[0];
    }

    private static boolean isBeside(int cell) {
        return cell == 1 || cell == 8 || cell == 10 || cell == 17;
    }

    /** Promise 41: "none if it is a FENCE or a GATE". */
    private static void seasonOnFencesAndGates() {
        RoadsByCows x = Check.made("#+#/+0+/#+#", "b20");
        for (int gate = 0; gate < 4; gate++) {
            x.gate(gate, 1);
        }
        Check.rule(x, "(t=9)*m");
        for (int seed = 0; seed < 40; seed++) {
            CHECK.due("no flies in GATES, seed " + seed, x.season(seed, 1), 0);
        }
        Check.rule(x, "(1-m)*(1-(t=9)*2)");
        int moved = 0;
        for (int seed = 0; seed < 40; seed++) {
            boolean flies = drawn(seed, new int[] {3, 3}) == 9;
            CHECK.due("flies where it is, seed " + seed, x.season(seed, 1), flies ? 1 : 0);
            moved += flies ? 1 : 0;
        }
        CHECK.due("some seeds draw it", moved > 0, true);
        CHECK.due("no THISTLES are left", Check.cell(x, 9, 2), 0);
    }

    /** Promise 42: "under a number 0 .. 1: true. Refused: others." */
    private static void keep() {
        for (int i : new int[] {LEAST, -32, -2, -1, 0, 1, 2, 3, 31, 32, 33, 64, MOST}) {
            boolean can = i == 0 || i == 1;
            RoadsByCows x = Check.made("0", "a10");
            CHECK.due("keep(" + i + ")", x.keep(i), can);
            for (int j : new int[] {-1, 0, 1, 2}) {
                CHECK.due("keep(" + i + "): again(" + j + ")", x.again(j), can && i == j);
            }
            CHECK.due("keep(" + i + "): again of it", x.again(i), can);
        }
    }

    /** Promise 43: "as they were kept under a number. Refused: nothing kept". */
    private static void again() {
        RoadsByCows x = Check.made("0", "a10");
        Check.rule(x, "0");
        CHECK.due("nothing kept", x.again(0), false);
        CHECK.due("nothing kept", x.again(1), false);
        x.hours(1);
        x.keep(0);
        x.hours(1);
        x.keep(1);
        x.hours(1);
        CHECK.due("again(1)", x.again(1), true);
        CHECK.due("NOW", x.count(6), 2);
        CHECK.due("again(0)", x.again(0), true);
        CHECK.due("NOW", x.count(6), 1);
        CHECK.due("again(1), ahead of the other", x.again(1), true);
        CHECK.due("NOW", x.count(6), 2);
        x.hours(5);
        CHECK.due("kept anew", x.keep(0), true);
        x.hours(1);
        CHECK.due("again(0)", x.again(0), true);
        CHECK.due("NOW", x.count(6), 7);
        CHECK.due("the other is as it was", x.again(1), true);
        CHECK.due("NOW", x.count(6), 2);
        CHECK.due("what was undone is kept", x.hours(1) >= 0 && x.undo() == 0 && x.again(0), true);
        CHECK.due("NOW", x.count(6), 7);
    }

    /** Promise 43: "Refused: .. herds came since". */
    private static void herdsCameSince() {
        RoadsByCows x = Check.made("00", "a10");
        x.keep(0);
        x.keep(1);
        CHECK.due("a refused herds()", Check.herds(x, "a1"), -3);
        CHECK.due("none came", x.again(0), true);
        CHECK.due("an empty herds()", Check.herds(x, ""), 0);
        CHECK.due("none came", x.again(1), true);
        Check.herds(x, "b10");
        CHECK.due("one came", x.again(0), false);
        CHECK.due("one came", x.again(1), false);
        CHECK.due("it is there", x.count(4), 2);
        x.keep(1);
        CHECK.due("kept since", x.again(1), true);
        CHECK.due("not kept since", x.again(0), false);
        Check.meadow(x, "00");
        CHECK.due("nothing is kept", x.again(1), false);
    }

    /** Promise 44: "NONE for another what". */
    private static void count() {
        RoadsByCows x = new RoadsByCows();
        for (int what = -3; what <= 16; what++) {
            CHECK.due("count(" + what + ")", x.count(what) == -1, what < 0 || what > 12);
        }
        for (int what : new int[] {LEAST, 64, 256, MOST}) {
            CHECK.due("count(" + what + ")", x.count(what), -1);
        }
        Check.meadow(x, "9".repeat(8) + "/99999999".repeat(7));
        CHECK.due("GRASS in all", x.count(9), 576);
        Check.tell(x, "0".repeat(80));
        CHECK.due("signs of THE TEXT", x.count(12), 80);
    }

    /** Promise 45: "NoSuchElementException: none such": of none, of one, of 14 numbers. */
    private static void row() {
        RoadsByCows x = trodden(8, 8);
        x.cart(0, 63);
        CHECK.due("14 numbers", x.count(11), 14);
        int[] due = {0, 1, 2, 3, 4, 5, 6, 7, 15, 23, 31, 39, 47, 55};
        for (int i = -2; i <= 16; i++) {
            CHECK.due("row(" + i + ") of 14", Check.row(x, i), i >= 0 && i < 14 ? due[i] : Check.THROWN);
        }
        x.squares();
        for (int i = -2; i <= 14; i++) {
            CHECK.due("row(" + i + ") of one", Check.row(x, i) != Check.THROWN, i == 0);
        }
        x.hedge(0, 1);
        for (int i : new int[] {LEAST, -1, 0, 1, 13, 14, MOST}) {
            CHECK.due("row(" + i + ") of none", Check.row(x, i), Check.THROWN);
        }
    }
}
