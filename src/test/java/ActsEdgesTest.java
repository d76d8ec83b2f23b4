/** The boundary cases of promises 7 to 16 and 18: cells, herds, what is done to them, and HOURS. */
public final class ActsEdgesTest {
    private static final Check CHECK = new Check();
    private static final int MOST = Integer.MAX_VALUE;
    private static final int LEAST = Integer.MIN_VALUE;
    private static final String BLANK = "00000000/00000000/00000000/00000000/00000000/00000000/00000000/00000000";

    public static void main(String[] args) {
        cells();
        herds();
        turnIfItWereNow();
        set();
        sheetOfBytes();
        sheetOfShorts();
        sheetOfInts();
        sheetOfSoMany();
        sheetInWhichOrder();
        laid();
        laidWhereItCannot();
        gates();
        gatesWithHerds();
        dogs();
        dogsAndGates();
        hour();
        hours();
        undoOfTen();
        undoOfEach();
        whatIsNoAct();
        whatForgets();
        CHECK.close("ActsEdgesTest");
    }

    /** Promise 7: "NoSuchElementException: none such, another what". */
    private static void cells() {
        RoadsByCows x = Check.made("12#/+45", "c20");
        boolean[] there = new boolean[64];
        for (int cell : new int[] {0, 1, 2, 8, 9, 10}) {
            there[cell] = true;
        }
        for (int cell = -2; cell <= 66; cell++) {
            boolean is = cell >= 0 && cell < 64 && there[cell];
            CHECK.due("cell(" + cell + ", 7)", Check.cell(x, cell, 7) != Check.THROWN, is);
        }
        for (int cell : new int[] {MOST, LEAST, 1 << 16, -64, 256}) {
            CHECK.due("cell(" + cell + ", 0)", Check.cell(x, cell, 0), Check.THROWN);
        }
        for (int what = -3; what <= 10; what++) {
            CHECK.due("cell(10, " + what + ")", Check.cell(x, 10, what) != Check.THROWN, what >= 0 && what <= 7);
        }
        for (int what : new int[] {MOST, LEAST, 256, -256}) {
            CHECK.due("cell(0, " + what + ")", Check.cell(x, 0, what), Check.THROWN);
        }
        CHECK.due("cell and what", Check.cell(x, -1, -1), Check.THROWN);
    }

    /** Promise 8: "NoSuchElementException: likewise". */
    private static void herds() {
        for (int herds = 0; herds <= 6; herds++) {
            RoadsByCows x = Check.made("0", "");
            for (int i = 0; i < herds; i++) {
                Check.herds(x, "a1" + i);
            }
            for (int herd = -2; herd <= 8; herd++) {
                boolean is = herd >= 0 && herd < herds;
                CHECK.due(herds + " herds: herd(" + herd + ", 1)", Check.herd(x, herd, 1), is ? herd : Check.THROWN);
            }
            for (int herd : new int[] {MOST, LEAST, 32, 64}) {
                CHECK.due(herds + " herds: herd(" + herd + ", 0)", Check.herd(x, herd, 0), Check.THROWN);
            }
        }
        RoadsByCows y = Check.made("0", "a10");
        for (int what = -3; what <= 8; what++) {
            CHECK.due("herd(0, " + what + ")", Check.herd(y, 0, what) != Check.THROWN, what >= 0 && what <= 4);
        }
        for (int what : new int[] {MOST, LEAST, 256}) {
            CHECK.due("herd(0, " + what + ")", Check.herd(y, 0, what), Check.THROWN);
        }
    }

    /** Promise 8: "where it would be behind its turn, if that were now (a slow one stays, if NOW is odd)". */
    private static void turnIfItWereNow() {
        RoadsByCows x = Check.made("00", "a10*;a10");
        for (int now = 0; now <= 4; now++) {
            Check.rule(x, "m");
            CHECK.due("a slow one in HOUR " + now, Check.herd(x, 0, 4), now % 2 == 0 ? 1 : 0);
            CHECK.due("another in HOUR " + now, Check.herd(x, 1, 4), 1);
            Check.rule(x, "(k=" + now + ")*m");
            CHECK.due("k is NOW " + now, Check.herd(x, 1, 4), 1);
            Check.rule(x, "0");
            x.hour();
        }
    }

    /** Promise 9: "KEEPS (what 0; 0 .. 99), GROWS (1; 1 .. 99) becomes v: what it was. Refused: others." */
    private static void set() {
        RoadsByCows x = new RoadsByCows();
        int keeps = 12;
        for (int v = -2; v <= 101; v++) {
            boolean can = v >= 0 && v <= 99;
            CHECK.due("set(0, " + v + ")", x.set(0, v), can ? keeps : -1);
            keeps = can ? v : keeps;
            CHECK.due("KEEPS", x.count(7), keeps);
        }
        int grows = 6;
        for (int v = -2; v <= 101; v++) {
            boolean can = v >= 1 && v <= 99;
            CHECK.due("set(1, " + v + ")", x.set(1, v), can ? grows : -1);
            grows = can ? v : grows;
            CHECK.due("GROWS", x.count(8), grows);
        }
        for (int what : new int[] {-1, 2, 3, 7, 8, MOST, LEAST}) {
            CHECK.due("set(" + what + ", 5)", x.set(what, 5), -1);
        }
        CHECK.due("KEEPS", x.count(7), 99);
        CHECK.due("GROWS", x.count(8), 99);
    }

    private static void sheet(int kind, int f, int want) {
        RoadsByCows x = Check.made("0", "a15");
        CHECK.due("sheet(" + kind + ", 1, " + f + ", 0)", x.sheet(kind, 1, f, 0), want);
        CHECK.due("GREED by sheet(" + kind + ", 1, " + f + ", 0)", Check.herd(x, 0, 1), want);
    }

    /** Promise 10: "of bytes .. the lowest bits, with their sign; put to 0 .. 9". */
    private static void sheetOfBytes() {
        int[][] due = {
            {-129, 9}, {-128, 0}, {-1, 0}, {0, 0}, {1, 1}, {8, 8}, {9, 9}, {10, 9}, {127, 9}, {128, 0}, {129, 0}, {255, 0},
            {256, 0}, {257, 1}, {265, 9}, {266, 9}, {-256, 0}, {-255, 1}, {-247, 9}, {-246, 9}, {MOST, 0}, {LEAST, 0}, {LEAST + 3, 3},
        };
        for (int[] d : due) {
            sheet(0, d[0], d[1]);
        }
    }

    /** Promise 10: "of .. shorts the lowest bits, with their sign; put to 0 .. 9". */
    private static void sheetOfShorts() {
        int[][] due = {
            {-32769, 9}, {-32768, 0}, {-1, 0}, {0, 0}, {9, 9}, {10, 9}, {128, 9}, {255, 9}, {256, 9}, {32767, 9}, {32768, 0},
            {65535, 0}, {65536, 0}, {65537, 1}, {65545, 9}, {65546, 9}, {-65536, 0}, {-65535, 1}, {MOST, 0}, {LEAST, 0}, {LEAST + 3, 3},
        };
        for (int[] d : due) {
            sheet(1, d[0], d[1]);
        }
    }

    /** Promise 10: "ints .. put to 0 .. 9", "f, f + step, .." goes round as ints do. */
    private static void sheetOfInts() {
        int[][] due = {{-1, 0}, {0, 0}, {1, 1}, {9, 9}, {10, 9}, {256, 9}, {65536, 9}, {MOST, 9}, {LEAST, 0}};
        for (int[] d : due) {
            sheet(2, d[0], d[1]);
        }
        RoadsByCows x = Check.made("0", "a15;a15;a15");
        CHECK.due("round the most", x.sheet(2, 3, MOST, 1), 9 + 0 + 0);
        CHECK.due("round the least", x.sheet(2, 3, LEAST, -1), 0 + 9 + 9);
        CHECK.due("twice the least is 0", x.sheet(2, 3, 4, LEAST), 4 + 0 + 4);
        CHECK.due("bytes round 256", x.sheet(0, 3, 250, 7), 0 + 1 + 8);
        CHECK.due("shorts round 65536", x.sheet(1, 3, 65530, 7), 0 + 1 + 8);
        CHECK.due("bytes by steps of 256", x.sheet(0, 3, 5, 256), 15);
        CHECK.due("shorts by steps of 65536", x.sheet(1, 3, 5, 65536), 15);
        CHECK.due("steps below 0", x.sheet(2, 3, 1, -1), 1);
    }

    /** Promise 10: "of n entries .. those behind it have 0: the sum of all"; "n above 6". */
    private static void sheetOfSoMany() {
        for (int herds = 0; herds <= 6; herds++) {
            for (int n = 0; n <= 6; n++) {
                RoadsByCows x = Check.made("0", "a17;".repeat(herds).substring(0, Math.max(0, 4 * herds - 1)));
                int told = Math.min(n, herds);
                CHECK.due(herds + " herds, " + n + " entries", x.sheet(2, n, 1, 1), told * (told + 1) / 2);
                for (int herd = 0; herd < herds; herd++) {
                    CHECK.due("GREED of herd " + herd, Check.herd(x, herd, 1), herd < n ? herd + 1 : 0);
                }
            }
        }
        RoadsByCows y = Check.made("0", "a17;a18");
        CHECK.due("seven", y.sheet(2, 7, 1, 1), -1);
        CHECK.due("seven: as it was", Check.herd(y, 0, 1), 7);
        CHECK.due("none", y.sheet(2, 0, 1, 1), 0);
        CHECK.due("none: all 0", Check.herd(y, 1, 1), 0);
    }

    /** Promise 10: "-2: n below 0 (of kinds 0 .. 2 ..); -3: missing (all 0). NONE: .. (these first)". */
    private static void sheetInWhichOrder() {
        for (int kind = -2; kind <= 5; kind++) {
            for (int n : new int[] {LEAST, -1, 0, 6, 7, MOST}) {
                RoadsByCows x = Check.made("0", "a15;a16");
                int want = kind < 0 || kind > 3 || n > 6 ? -1 : kind == 3 ? -3 : n < 0 ? -2 : n == 0 ? 0 : 4 + 4;
                CHECK.due("sheet(" + kind + ", " + n + ", 4, 0)", x.sheet(kind, n, 4, 0), want);
                int first = want == -1 || want == -2 ? 5 : want == 8 ? 4 : 0;
                int second = want == -1 || want == -2 ? 6 : want == 8 ? 4 : 0;
                CHECK.due("sheet(" + kind + ", " + n + ", 4, 0): GREED", Check.herd(x, 0, 1), first);
                CHECK.due("sheet(" + kind + ", " + n + ", 4, 0): GREED", Check.herd(x, 1, 1), second);
            }
        }
    }

    /** Promises 11 and 12: "becomes v (0 .. 9): what it was .. NONE: others". */
    private static void laid() {
        RoadsByCows x = Check.made(BLANK, "");
        for (int cell : new int[] {0, 7, 56, 63}) {
            int salt = 0;
            int thistles = 0;
            for (int v = -2; v <= 11; v++) {
                boolean can = v >= 0 && v <= 9;
                CHECK.due("salt(" + cell + ", " + v + ")", x.salt(cell, v), can ? salt : -1);
                salt = can ? v : salt;
                CHECK.due("SALT", Check.cell(x, cell, 1), salt);
                CHECK.due("THISTLES", Check.cell(x, cell, 2), thistles);
                CHECK.due("thistles(" + cell + ", " + v + ")", x.thistles(cell, v), can ? thistles : -1);
                thistles = can ? v : thistles;
                CHECK.due("SALT", Check.cell(x, cell, 1), salt);
                CHECK.due("THISTLES", Check.cell(x, cell, 2), thistles);
            }
        }
        RoadsByCows y = Check.made("00/00", "");
        for (int cell : new int[] {LEAST, -8, -1, 2, 7, 10, 16, 17, 63, 64, 65, MOST}) {
            CHECK.due("salt(" + cell + ", 0)", y.salt(cell, 0), -1);
            CHECK.due("thistles(" + cell + ", 0)", y.thistles(cell, 0), -1);
        }
        CHECK.due("none of them can be undone", y.count(10), 0);
    }

    /** Promises 11 and 12: "-2: it is a FENCE or a GATE". */
    private static void laidWhereItCannot() {
        RoadsByCows x = Check.made("#+0", "");
        for (int open = 0; open < 2; open++) {
            for (int v = 0; v <= 9; v++) {
                CHECK.due("salt(FENCE, " + v + ")", x.salt(0, v), -2);
                CHECK.due("salt(GATE, " + v + ")", x.salt(1, v), -2);
                CHECK.due("thistles(FENCE, " + v + ")", x.thistles(0, v), -2);
                CHECK.due("thistles(GATE, " + v + ")", x.thistles(1, v), -2);
            }
            x.gate(0, 1);
        }
        for (int cell = 0; cell < 2; cell++) {
            CHECK.due("no SALT", Check.cell(x, cell, 1), 0);
            CHECK.due("no THISTLES", Check.cell(x, cell, 2), 0);
        }
        CHECK.due("none of them can be undone", x.count(10), 2);
    }

    /** Promise 13: "opened (1) or shut (0): what it was .. NONE: others". */
    private static void gates() {
        for (int gates = 0; gates <= 6; gates++) {
            RoadsByCows x = Check.made("+".repeat(gates) + "0", "");
            for (int gate = -2; gate <= 7; gate++) {
                boolean is = gate >= 0 && gate < gates;
                CHECK.due(gates + " GATES: gate(" + gate + ", 0)", x.gate(gate, 0), is ? 0 : -1);
                CHECK.due(gates + " GATES: gate(" + gate + ", 1)", x.gate(gate, 1), is ? 0 : -1);
                CHECK.due(gates + " GATES: gate(" + gate + ", 1)", x.gate(gate, 1), is ? 1 : -1);
                CHECK.due(gates + " GATES: gate(" + gate + ", 0)", x.gate(gate, 0), is ? 1 : -1);
                CHECK.due("all are shut", x.count(3), 0);
            }
            for (int gate : new int[] {31, 32, 33, MOST, LEAST}) {
                CHECK.due(gates + " GATES: gate(" + gate + ", 1)", x.gate(gate, 1), -1);
            }
        }
        RoadsByCows y = Check.made("+0", "");
        for (int v : new int[] {LEAST, -2, -1, 2, 3, MOST}) {
            CHECK.due("gate(0, " + v + ") of one that is shut", y.gate(0, v), -1);
            CHECK.due("it is shut", y.count(3), 0);
        }
        y.gate(0, 1);
        for (int v : new int[] {LEAST, -2, -1, 2, 3, MOST}) {
            CHECK.due("gate(0, " + v + ") of one that is open", y.gate(0, v), -1);
            CHECK.due("it is open", y.count(3), 1);
        }
        CHECK.due("one of them can be undone", y.count(10), 1);
    }

    /** Promise 13: "-2: a herd is in it". */
    private static void gatesWithHerds() {
        RoadsByCows x = Check.made("+0+", "b10;b10");
        x.gate(0, 1);
        x.gate(1, 1);
        x.drive(0, 0);
        x.drive(1, 0);
        CHECK.due("two in it", x.gate(0, 0), -2);
        CHECK.due("none in the other", x.gate(1, 0), 1);
        x.drive(0, 1);
        CHECK.due("one in it", x.gate(0, 0), -2);
        CHECK.due("it is open", x.count(3), 1);
        CHECK.due("what can be undone", x.count(10), 6);
        x.drive(1, 1);
        CHECK.due("none in it", x.gate(0, 0), 1);
        CHECK.due("it is shut", x.count(3), 0);
    }

    /** Promise 14: "-2: it is not beside it, or a FENCE ..; NONE: none such". */
    private static void dogs() {
        for (int from : new int[] {0, 7, 27, 56, 63}) {
            for (int to = -9; to < 73; to++) {
                RoadsByCows x = Check.made(BLANK, "" + (char) ('a' + from % 8) + (1 + from / 8) + "0");
                boolean there = to >= 0 && to < 64;
                int far = there ? Math.abs(from % 8 - to % 8) + Math.abs(from / 8 - to / 8) : 0;
                CHECK.due("drive(0, " + to + ") from " + from, x.drive(0, to), !there ? -1 : far == 1 ? from : -2);
                CHECK.due("where it is", Check.herd(x, 0, 0), far == 1 ? to : from);
                CHECK.due("whether it lies", Check.herd(x, 0, 3), far == 1 ? 0 : 1);
                CHECK.due("what can be undone", x.count(10), far == 1 ? 1 : 0);
            }
        }
        RoadsByCows y = Check.made("00", "a10;b10");
        for (int herd : new int[] {LEAST, -1, 2, 6, MOST}) {
            CHECK.due("drive(" + herd + ", 0)", y.drive(herd, 0), -1);
        }
        for (int cell : new int[] {LEAST, -1, 2, 8, 64, MOST}) {
            CHECK.due("drive(1, " + cell + ")", y.drive(1, cell), -1);
        }
        CHECK.due("to where another is", y.drive(0, 1), 0);
        CHECK.due("both are there", Check.cell(y, 1, 7), 3);
        CHECK.due("by the one that came", Check.cell(y, 1, 5), 0);
    }

    /** Promise 14: "-2: .. or a FENCE, or a GATE that is shut". */
    private static void dogsAndGates() {
        RoadsByCows x = Check.made("#0+/000", "b10");
        CHECK.due("a FENCE", x.drive(0, 0), -2);
        CHECK.due("a GATE that is shut", x.drive(0, 2), -2);
        x.gate(0, 1);
        CHECK.due("a GATE that is open", x.drive(0, 2), 1);
        CHECK.due("it is trodden", Check.cell(x, 2, 5), 0);
        CHECK.due("out of it", x.drive(0, 10), 2);
        CHECK.due("it does not lie", Check.herd(x, 0, 3), 0);
        x.gate(0, 0);
        CHECK.due("a GATE that is shut again", x.drive(0, 2), -2);
        CHECK.due("whoever is slow is driven too", Check.made("00", "a10*").drive(0, 1), 0);
    }

    /** Promise 15: "how many herds moved; the ROW: where each is": none, and six. */
    private static void hour() {
        RoadsByCows x = Check.made(BLANK, "");
        CHECK.due("no herds", x.hour(), 0);
        CHECK.dueRow("no herds", x);
        Check.herds(x, "a10;h10;a80;h80;d40;e50");
        Check.rule(x, "m");
        CHECK.due("six", x.hour(), 6);
        CHECK.dueRow("six", x, 1, 15, 48, 55, 19, 28);
        Check.rule(x, "0");
        CHECK.due("none of six", x.hour(), 0);
        CHECK.dueRow("none of six", x, 1, 15, 48, 55, 19, 28);
    }

    /** Promise 16: "n HOURS (0 .. 60) .. NONE: another n". */
    private static void hours() {
        for (int n : new int[] {LEAST, -60, -2, -1, 0, 1, 2, 59, 60, 61, 62, 120, MOST}) {
            RoadsByCows x = Check.made("00", "a10;b10");
            Check.rule(x, "m");
            boolean can = n >= 0 && n <= 60;
            CHECK.due("hours(" + n + ")", x.hours(n), can ? 2 * n : -1);
            CHECK.due("hours(" + n + "): NOW", x.count(6), can ? n : 0);
            CHECK.due("hours(" + n + "): the ROW", x.count(11), can ? 2 : 0);
            CHECK.due("hours(" + n + "): what can be undone", x.count(10), can && n >= 1 ? 1 : 0);
        }
    }

    /** Promise 18: "of 10 that are kept, the latest ones"; "Refused: none." */
    private static void undoOfTen() {
        for (int acts : new int[] {0, 1, 9, 10, 11, 12, 19, 20, 21, 25}) {
            RoadsByCows x = Check.made("0", "");
            for (int i = 1; i <= acts; i++) {
                CHECK.due("salt()", x.salt(0, i % 10), (i - 1) % 10);
                CHECK.due("what can be undone", x.count(10), Math.min(10, i));
            }
            int left = Math.min(10, acts);
            for (int i = 1; i <= Math.min(10, acts); i++) {
                left--;
                CHECK.due(acts + " acts: undo() number " + i, x.undo(), left);
                CHECK.due(acts + " acts: SALT", Check.cell(x, 0, 1), (acts - i) % 10);
            }
            CHECK.due(acts + " acts: one more", x.undo(), -1);
            CHECK.due(acts + " acts: one more: SALT", Check.cell(x, 0, 1), Math.max(0, acts - 10) % 10);
            // Behind it all begins anew.
            x.salt(0, 9);
            CHECK.due(acts + " acts: another one", x.undo(), 0);
            CHECK.due(acts + " acts: none left", x.undo(), -1);
        }
    }

    /** Promise 18: each of the seven, "hours() of 1 and more, day() of which one ACT was done, as one". */
    private static void undoOfEach() {
        for (int act = 0; act < 9; act++) {
            RoadsByCows x = Check.made("50+", "a10");
            Check.rule(x, "m");
            x.hour();
            String ahead = told(x);
            switch (act) {
                case 0:
                    x.salt(0, 5);
                    break;
                case 1:
                    x.thistles(1, 5);
                    break;
                case 2:
                    x.gate(0, 1);
                    break;
                case 3:
                    x.drive(0, 0);
                    break;
                case 4:
                    x.hour();
                    break;
                case 5:
                    x.hours(1);
                    break;
                case 6:
                    x.hours(60);
                    break;
                case 7:
                    Check.day(x, "h");
                    break;
                default:
                    Check.day(x, "sa15;tb15;o0;d0a1;h9;o7;h9");
                    break;
            }
            CHECK.due("act " + act + " changes something", told(x).equals(ahead), false);
            CHECK.due("act " + act + " is undone", x.undo(), 1);
            CHECK.due("act " + act + ": all is as ahead of it", told(x).equals(ahead), true);
            CHECK.due("act " + act + ": the HOUR ahead of it too", x.undo(), 0);
            CHECK.due("act " + act + ": NOW", x.count(6), 0);
        }
        // What is laid as it was is an act too.
        RoadsByCows y = Check.made("0+", "");
        y.salt(0, 0);
        y.thistles(0, 0);
        y.gate(0, 0);
        CHECK.due("three", y.undo(), 2);
    }

    private static String told(RoadsByCows x) {
        StringBuilder all = new StringBuilder();
        for (int cell = 0; cell < 3; cell++) {
            for (int what = 0; what < 8; what++) {
                all.append(Check.cell(x, cell, what)).append(' ');
            }
        }
        for (int what = 0; what < 5; what++) {
            all.append(Check.herd(x, 0, what)).append(' ');
        }
        return all.append(x.count(3)).append(' ').append(x.count(5)).append(' ').append(x.count(6)).toString();
    }

    /** Promise 18: "such as were done": what is no act, or was not done, is not undone. */
    private static void whatIsNoAct() {
        RoadsByCows x = Check.made("0#+", "a10");
        x.salt(0, 10);
        x.salt(1, 1);
        x.salt(3, 1);
        x.thistles(0, -1);
        x.thistles(2, 1);
        x.gate(0, 2);
        x.gate(1, 1);
        x.drive(0, 0);
        x.drive(1, 0);
        x.hours(0);
        x.hours(61);
        Check.day(x, "");
        Check.day(x, "o1;h");
        Check.day(x, "h;h;x");
        x.set(0, 5);
        x.set(1, 5);
        x.sheet(2, 1, 5, 0);
        x.sheet(3, 0, 0, 0);
        x.keep(0);
        x.snow();
        x.season(1, 5);
        Check.rule(x, "m");
        x.where(0, 5);
        CHECK.due("none can be undone", x.count(10), 0);
        CHECK.due("none can be undone", x.undo(), -1);
    }

    /** Promise 18: "meadow(), herds() and again() forget them, if they are not refused; an empty herds() does not". */
    private static void whatForgets() {
        for (int call = 0; call < 8; call++) {
            RoadsByCows x = Check.made("00", "a10");
            x.keep(0);
            x.hour();
            x.salt(0, 1);
            switch (call) {
                case 0:
                    Check.meadow(x, "00");
                    break;
                case 1:
                    Check.herds(x, "b10");
                    break;
                case 2:
                    x.again(0);
                    break;
                case 3:
                    Check.meadow(x, "0?");
                    break;
                case 4:
                    Check.herds(x, "b1");
                    break;
                case 5:
                    x.again(1);
                    break;
                case 6:
                    x.again(2);
                    break;
                default:
                    Check.herds(x, "");
                    break;
            }
            CHECK.due("call " + call + ": what can be undone", x.count(10), call < 3 ? 0 : 2);
            CHECK.due("call " + call + ": undo()", x.undo(), call < 3 ? -1 : 1);
        }
    }
}
