/** Promises 5, 8 and 10: herds are told, what they answer, and a sheet of their GREED. */
public final class HerdsTest {
    private static final Check CHECK = new Check();

    public static void main(String[] args) {
        good();
        faults();
        comeAllOrNone();
        whatTheyForget();
        herd();
        sheet();
        sheetRefuses();
        CHECK.close("HerdsTest");
    }

    private static void good() {
        RoadsByCows x = Check.made("12#/+45", "");
        CHECK.due("an empty one", Check.herds(x, ""), 0);
        CHECK.due("one", Check.herds(x, "b12*"), 1);
        CHECK.due("two more", Check.herds(x, "c29;a10"), 2);
        CHECK.due("three more, at one cell", Check.herds(x, "b21;b22;b23*"), 3);
        int[][] due = {{1, 2, 1}, {10, 9, 0}, {0, 0, 0}, {9, 1, 0}, {9, 2, 0}, {9, 3, 1}};
        for (int h = 0; h < 6; h++) {
            for (int what = 0; what < 3; what++) {
                CHECK.due("herd(" + h + ", " + what + ")", Check.herd(x, h, what), due[h][what]);
            }
            CHECK.due("it lies at first", Check.herd(x, h, 3), 1);
        }
        CHECK.due("herds", x.count(4), 6);
        CHECK.due("all lie", x.count(5), 63);
        CHECK.due("the last one told trod it last", Check.cell(x, 9, 5), 5);
        CHECK.due("a seventh", Check.herds(x, "a10"), -1);
        CHECK.due("nothing, with no room", Check.herds(x, ""), 0);

        RoadsByCows y = Check.made("00", "a10");
        Check.rule(y, "0");
        y.hours(7);
        Check.herds(y, "b10");
        CHECK.due("trodden in HOUR NOW", Check.cell(y, 1, 4), 7);
        CHECK.due("by it", Check.cell(y, 1, 5), 1);
        CHECK.due("it is ROAD", Check.cell(y, 1, 6), 1);
    }

    private static void due(String words, int want) {
        CHECK.due("herds '" + words + "'", Check.herds(Check.made("1#/+2", ""), words), want);
    }

    private static void faults() {
        due("x", -1);
        due("a", -2);
        due("c1", -1);
        due("c", -1);
        due("A15", -1);
        due("a0", -2);
        due("a3", -2);
        due("a9", -2);
        due("b1", -2);
        due("b15", -2);
        due("a25", -2);
        due("a1", -3);
        due("a1x", -3);
        due("a1*", -3);
        due("a15**", -5);
        due("a155", -4);
        due("a15 ", -4);
        due("a15;", -5);
        due("a15*;", -6);
        due("a15;;", -5);
        due(";a15", -1);
        due("a15;b25*;c15", -10);
        due("a15;a15;a15;a15;a15;a15;a15", -25);
        due("a15;a15;a15;a15;a15;a15;", -25);
        due("a15;a15;a15;a15;a15;a15;x", -25);
        due("a15*;a15*;a15*;a15*;a15*;a15*;a15", -31);
        CHECK.due("no meadow", Check.herds(new RoadsByCows(), "a15"), -1);
        RoadsByCows x = Check.made("1", "a15;a15;a15;a15");
        CHECK.due("room for two", Check.herds(x, "a15;a15;a15"), -9);
        CHECK.due("room for two, and an end", Check.herds(x, "a15;a15;"), -9);
        CHECK.due("room for two", Check.herds(x, "a15;a15*"), 2);
    }

    private static void comeAllOrNone() {
        RoadsByCows x = Check.made("00", "a11");
        x.keep(0);
        x.hour();
        CHECK.due("the second can't", Check.herds(x, "b15;c15"), -5);
        CHECK.due("herds", x.count(4), 1);
        CHECK.due("not trodden", Check.cell(x, 1, 5) == 1, false);
        CHECK.due("what can be undone", x.count(10), 1);
        CHECK.due("what is kept", x.again(0), true);
    }

    private static void whatTheyForget() {
        RoadsByCows x = Check.made("00", "a11");
        x.keep(0);
        x.hour();
        CHECK.due("an empty one", Check.herds(x, ""), 0);
        CHECK.due("forgets nothing", x.count(10), 1);
        CHECK.due("herds()", Check.herds(x, "b12"), 1);
        CHECK.due("forgets what can be undone", x.undo(), -1);
        CHECK.due("herds came since", x.again(0), false);
        CHECK.due("keep() again", x.keep(0), true);
        CHECK.due("again() then", x.again(0), true);
    }

    private static void herd() {
        // A slow one stays in odd HOURS; one that is not goes east to the grass.
        RoadsByCows x = Check.made("09/09", "a15;a26*");
        CHECK.due("a turn now", Check.herd(x, 0, 4), 1);
        CHECK.due("a slow one's turn, NOW even", Check.herd(x, 1, 4), 9);
        CHECK.due("it changes nothing", Check.herd(x, 0, 0), 0);
        CHECK.due("nor NOW", x.count(6), 0);
        Check.rule(x, "0");
        x.hour();
        Check.rule(x, "g");
        CHECK.due("a turn now, NOW odd", Check.herd(x, 0, 4), 1);
        CHECK.due("a slow one's turn, NOW odd", Check.herd(x, 1, 4), 8);
        CHECK.due("lies", Check.herd(x, 0, 3), 1);
        x.hour();
        CHECK.due("moved, so it does not lie", Check.herd(x, 0, 3), 0);
        CHECK.due("a slow one moved too", Check.herd(x, 1, 3), 0);
        x.hour();
        CHECK.due("a slow one lies in odd HOURS", Check.herd(x, 1, 3), 1);
        for (int herd : new int[] {-1, 2, 6, Integer.MAX_VALUE, Integer.MIN_VALUE}) {
            CHECK.due("no herd " + herd, Check.herd(x, herd, 0), Check.THROWN);
        }
        for (int what : new int[] {-1, 5, Integer.MAX_VALUE, Integer.MIN_VALUE}) {
            CHECK.due("no what " + what, Check.herd(x, 0, what), Check.THROWN);
        }
        // k is NOW itself, not the HOUR to come.
        Check.rule(x, "(k=3)*m");
        CHECK.due("k in herd(0, 4)", x.count(6), 3);
        CHECK.due("k in herd(0, 4)", Check.herd(x, 0, 4) != Check.herd(x, 0, 0), true);
    }

    private static void greeds(String what, RoadsByCows x, int... due) {
        for (int h = 0; h < due.length; h++) {
            CHECK.due(what + ": GREED of " + h, Check.herd(x, h, 1), due[h]);
        }
    }

    private static void sheet() {
        RoadsByCows x = Check.made("0", "a11;a12;a13;a14");
        CHECK.due("ints", x.sheet(2, 4, 1, 3), 1 + 4 + 7 + 9);
        greeds("ints", x, 1, 4, 7, 9);
        CHECK.due("those behind have 0", x.sheet(2, 2, 8, -1), 15);
        greeds("those behind", x, 8, 7, 0, 0);
        CHECK.due("more than there are herds", x.sheet(2, 6, 5, -2), 5 + 3 + 1 + 0);
        greeds("more", x, 5, 3, 1, 0);
        CHECK.due("bytes: 260 is 4, 127 is 9, -128 is 0", x.sheet(0, 3, 260, -133), 4 + 9 + 0);
        greeds("bytes", x, 4, 9, 0, 0);
        CHECK.due("a byte 250 is -6", x.sheet(0, 1, 250, 0), 0);
        CHECK.due("a short 250 is 250", x.sheet(1, 1, 250, 0), 9);
        CHECK.due("a short 65539 is 3", x.sheet(1, 2, 65539, 32768), 3);
        CHECK.due("an int 65539 is 65539", x.sheet(2, 1, 65539, 0), 9);
        CHECK.due("ints go round", x.sheet(2, 2, Integer.MAX_VALUE, 1), 9);
        greeds("ints go round", x, 9, 0, 0, 0);
        CHECK.due("no entries", x.sheet(2, 0, 9, 9), 0);
        greeds("no entries", x, 0, 0, 0, 0);
        x.sheet(2, 4, 5, 0);
        CHECK.due("a missing one", x.sheet(3, 4, 5, 0), -3);
        greeds("missing", x, 0, 0, 0, 0);
        x.sheet(2, 4, 5, 0);
        CHECK.due("a missing one, n below 0", x.sheet(3, -1, 5, 0), -3);
        greeds("missing", x, 0, 0, 0, 0);
        CHECK.due("it can't be undone", x.count(10), 0);
        CHECK.due("no herds", new RoadsByCows().sheet(2, 3, 5, 0), 0);
    }

    private static void sheetRefuses() {
        RoadsByCows x = Check.made("0", "a11;a12");
        CHECK.due("n below 0", x.sheet(0, -1, 5, 0), -2);
        CHECK.due("n below 0", x.sheet(1, Integer.MIN_VALUE, 5, 0), -2);
        CHECK.due("n below 0", x.sheet(2, -1, 5, 0), -2);
        CHECK.due("n above 6", x.sheet(0, 7, 5, 0), -1);
        CHECK.due("n above 6, missing", x.sheet(3, 7, 5, 0), -1);
        CHECK.due("another kind", x.sheet(4, 1, 5, 0), -1);
        CHECK.due("another kind", x.sheet(-1, 1, 5, 0), -1);
        CHECK.due("another kind, n below 0", x.sheet(4, -1, 5, 0), -1);
        greeds("refused", x, 1, 2);
    }
}
