/** Promises 35 to 38: ways, bride, lost, letter. */
public final class BrideTest {
    private static final Check CHECK = new Check();

    public static void main(String[] args) {
        ways();
        waysAreMany();
        bride();
        brideFaults();
        brideWaysAreMany();
        lost();
        lostRefuses();
        letter();
        CHECK.close("BrideTest");
    }

    private static void drive(RoadsByCows x, int herd, int... cells) {
        for (int cell : cells) {
            if (x.drive(herd, cell) < 0) {
                throw new IllegalArgumentException("a test drives a herd where it can't go: " + cell);
            }
        }
    }

    private static void ways() {
        RoadsByCows x = Check.made("000/000", "a10");
        drive(x, 0, 1, 9, 8);
        CHECK.due("two", x.ways(0, 9, 2), 2);
        CHECK.dueRow("two", x, 1);
        CHECK.due("to and fro", x.ways(0, 0, 2), 2);
        CHECK.dueRow("to and fro", x, 1);
        CHECK.due("one", x.ways(9, 8, 1), 1);
        CHECK.dueRow("one", x, 8);
        CHECK.due("cells come again", x.ways(0, 1, 3), 4);
        CHECK.dueRow("cells come again", x, 1);
        CHECK.due("odd", x.ways(0, 9, 3), 0);
        CHECK.dueRow("odd", x, -1);
        CHECK.due("no step", x.ways(0, 0, 0), 1);
        CHECK.dueRow("no step", x, -1);
        CHECK.due("no step to another", x.ways(0, 1, 0), 0);
        CHECK.dueRow("no step to another", x, -1);
        CHECK.due("to what is no ROAD", x.ways(1, 2, 1), 0);
        CHECK.dueRow("to what is no ROAD", x, -1);
        CHECK.due("from what is no ROAD", x.ways(2, 1, 1), 0);
        CHECK.dueRow("from what is no ROAD", x, -1);
        CHECK.due("no ROAD, no step", x.ways(2, 2, 0), 0);
        CHECK.due("twenty steps on a ring of four", x.ways(0, 9, 20), 524288);
        CHECK.due("too many steps", x.ways(0, 0, 21), -1);
        CHECK.due("steps below 0", x.ways(0, 0, -1), -1);
        CHECK.due("none such", x.ways(0, 3, 2), -1);
        CHECK.due("none such", x.ways(64, 0, 2), -1);
        CHECK.dueRow("they leave the ROW", x, 1);
        // The least next cell must be on a way.
        RoadsByCows y = Check.made("000/000", "b10");
        drive(y, 0, 0, 1, 2, 10);
        CHECK.due("c2 in 2", y.ways(1, 10, 2), 1);
        CHECK.dueRow("c2 in 2", y, 2);
    }

    private static void waysAreMany() {
        RoadsByCows x = Check.made("000/000/000", "a10");
        drive(x, 0, 1, 2, 10, 9, 8, 16, 17, 18);
        CHECK.due("1000000 at most", x.ways(0, 0, 20), 1000000);
        CHECK.dueRow("1000000 at most", x, 1);
        // Of 3 by 3 cells, from a corner back to it: 8^k/8 + 2^k/2 ways of 2k steps.
        CHECK.due("8 steps", x.ways(0, 0, 8), 520);
        CHECK.due("14 steps", x.ways(0, 0, 14), 262144 + 64);
        CHECK.due("2 steps from the middle", x.ways(9, 9, 2), 4);
        // Rows do not run on, and there is nothing beyond the edges.
        RoadsByCows y = Check.made("00000000/00000000/00000000/00000000/00000000/00000000/00000000/00000000", "h10;a20;a80;h80");
        CHECK.due("h1 to a2", y.ways(7, 8, 1), 0);
        CHECK.due("a2 to h1", y.ways(8, 7, 1), 0);
        CHECK.due("a2 and back", y.ways(8, 8, 2), 0);
        CHECK.due("a8 and back", y.ways(56, 56, 2), 0);
        CHECK.due("h8 and back", y.ways(63, 63, 2), 0);
        drive(y, 0, 6);
        CHECK.due("h1 and back", y.ways(7, 7, 2), 1);
        CHECK.dueRow("h1 and back", y, 6);
    }

    private static void bride() {
        RoadsByCows x = Check.made("000/000/00#", "a10");
        drive(x, 0, 1, 9, 8, 16);
        CHECK.due("at one cell", Check.bride(x, "a1"), 0);
        CHECK.dueRow("at one cell", x, 1);
        CHECK.due("two ways", Check.bride(x, "a1b2"), 2);
        CHECK.dueRow("two ways", x, 2);
        CHECK.due("there and back", Check.bride(x, "a1b2a1"), 4);
        CHECK.dueRow("there and back", x, 4);
        CHECK.due("seen on the way", Check.bride(x, "a1b1b2"), 2);
        CHECK.dueRow("seen on the way", x, 1);
        CHECK.due("twice at a cell", Check.bride(x, "a1a1a3"), 2);
        CHECK.dueRow("twice at a cell", x, 1);
        CHECK.due("b1 to a3", Check.bride(x, "b1a3"), 3);
        CHECK.dueRow("b1 to a3", x, 2);
        CHECK.due("no ROAD", Check.bride(x, "a1c1"), -100);
        CHECK.due("no ROAD", Check.bride(x, "c1a1"), -100);
        CHECK.due("no ROAD, alone", Check.bride(x, "c1"), -100);
        CHECK.due("a FENCE", Check.bride(x, "c3"), -100);
        CHECK.dueRow("they leave the ROW", x, 2);
        Check.herds(x, "c20");
        CHECK.due("joined now", Check.bride(x, "a1c2"), 3);
        RoadsByCows y = Check.made("000", "a10;c10");
        CHECK.due("another piece", Check.bride(y, "a1c1"), -100);
    }

    private static void brideFaults() {
        RoadsByCows x = Check.made("000/000/00#", "a10");
        CHECK.due("empty", Check.bride(x, ""), -1);
        CHECK.due("a letter of no column", Check.bride(x, "d1"), -1);
        CHECK.due("no letter", Check.bride(x, "1a"), -1);
        CHECK.due("no letter", Check.bride(x, "A1"), -1);
        CHECK.due("a digit of no row", Check.bride(x, "a4"), -2);
        CHECK.due("a digit 0", Check.bride(x, "a0"), -2);
        CHECK.due("no digit", Check.bride(x, "ab"), -2);
        CHECK.due("ends too early", Check.bride(x, "a"), -2);
        CHECK.due("ends too early", Check.bride(x, "a1b"), -4);
        CHECK.due("a letter of no column", Check.bride(x, "a1d"), -3);
        CHECK.due("a space", Check.bride(x, "a1 b1"), -3);
        CHECK.due("a fault ahead of no ROAD", Check.bride(x, "c1x"), -3);
        CHECK.due("twelve", Check.bride(x, "a1a1a1a1a1a1a1a1a1a1a1a1"), 0);
        CHECK.due("thirteen", Check.bride(x, "a1a1a1a1a1a1a1a1a1a1a1a1a1"), -25);
        CHECK.due("twelve and a half", Check.bride(x, "a1a1a1a1a1a1a1a1a1a1a1a1a"), -25);
        CHECK.due("no meadow", Check.bride(new RoadsByCows(), "a1"), -1);
    }

    private static void brideWaysAreMany() {
        RoadsByCows x = Check.made("00000/00000/00000/00000/00000", "a10");
        for (int y = 0; y < 5; y++) {
            for (int i = 1; i < 5; i++) {
                drive(x, 0, 8 * y + (y % 2 == 0 ? i : 4 - i));
            }
            if (y < 4) {
                drive(x, 0, 8 * (y + 1) + (y % 2 == 0 ? 4 : 0));
            }
        }
        CHECK.due("corner to corner", Check.bride(x, "a1e5"), 8);
        CHECK.dueRow("corner to corner", x, 70);
        CHECK.due("three times", Check.bride(x, "a1e5a1e5"), 24);
        CHECK.dueRow("three times", x, 343000);
        CHECK.due("four times", Check.bride(x, "a1e5a1e5a1"), 32);
        CHECK.dueRow("1000000 at most", x, 1000000);
        CHECK.due("eleven times", Check.bride(x, "a1e5a1e5a1e5a1e5a1e5a1e5"), 88);
        CHECK.dueRow("1000000 at most", x, 1000000);
    }

    private static void lost() {
        RoadsByCows x = Check.made("000", "");
        CHECK.due("now", x.lost(1, 1, 0), 1000000);
        CHECK.dueRow("now", x, 1);
        CHECK.due("now, elsewhere", x.lost(1, 0, 0), 0);
        CHECK.due("in 1", x.lost(1, 0, 1), 333333);
        CHECK.dueRow("the first", x, 0);
        CHECK.due("in 2", x.lost(1, 0, 2), 166666 + 111111);
        CHECK.dueRow("in 2", x, 1);
        CHECK.due("in 2, b1", x.lost(1, 1, 2), 166666 + 111111 + 166666);
        RoadsByCows y = Check.made("0+#", "");
        CHECK.due("shut in", y.lost(0, 0, 40), 1000000);
        CHECK.due("a GATE that is shut", y.lost(0, 1, 40), 0);
        y.gate(0, 1);
        CHECK.due("it is open", y.lost(0, 1, 1), 500000);
        CHECK.due("from the GATE", y.lost(1, 1, 1), 500000);
        CHECK.due("a FENCE", y.lost(0, 2, 5), 0);
        RoadsByCows z = Check.made("00000000/00000000", "");
        CHECK.due("rows do not run on", z.lost(7, 8, 1), 0);
        CHECK.due("three ways", z.lost(7, 6, 1), 333333);
    }

    private static void lostRefuses() {
        RoadsByCows x = Check.made("0+#", "");
        CHECK.due("begins at a GATE that is shut", x.lost(1, 0, 1), -1);
        CHECK.due("begins at a FENCE", x.lost(2, 0, 1), -1);
        CHECK.due("none such", x.lost(3, 0, 1), -1);
        CHECK.due("none such", x.lost(0, 3, 1), -1);
        CHECK.due("none such", x.lost(-1, 0, 1), -1);
        CHECK.due("too long", x.lost(0, 0, 41), -1);
        CHECK.due("gone by", x.lost(0, 0, -1), -1);
        CHECK.dueRow("they leave the ROW", x);
    }

    private static void letter() {
        RoadsByCows x = Check.made("0000", "a10*");
        Check.rule(x, "m");
        CHECK.due("taken now, left where it lies", x.letter(0), 1);
        CHECK.dueRow("taken now", x, 0, 0);
        CHECK.due("taken in 2", x.letter(1), 3);
        CHECK.dueRow("taken in 2", x, 0, 1);
        CHECK.due("none such", x.letter(4), -1);
        CHECK.due("none such", x.letter(-1), -1);
        RoadsByCows y = Check.made("0000#", "a10");
        Check.rule(y, "m");
        CHECK.due("it never lies", y.letter(2), -2);
        CHECK.due("none comes by", y.letter(4), -2);
        // Carried on to where it lies: from b1, which it passes in HOUR 1, to d1, where it stays in 4.
        Check.rule(y, "m*(k<4)");
        CHECK.due("carried", y.letter(1), 4);
        CHECK.dueRow("carried", y, 0, 3);
        // Of several that come in one HOUR the first takes it, though the second lies sooner.
        RoadsByCows z = Check.made("0000", "a10;a10*;d10*");
        Check.rule(z, "m*(k<6)*(i=0)");
        CHECK.due("of several the first", z.letter(0), 6);
        CHECK.dueRow("of several the first", z, 0, 3);
        CHECK.due("where one lies", z.letter(3), 1);
        CHECK.dueRow("where one lies", z, 2, 3);
        Check.rule(z, "m*(k<100)*(i=0)");
        CHECK.due("in HOUR 100", z.letter(0), 100);
        Check.rule(z, "m*(k<101)*(i=0)");
        CHECK.due("in HOUR 101", z.letter(0), -2);
    }
}
