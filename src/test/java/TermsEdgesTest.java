/** The boundary cases that "Terms" 1 and 2 name; which signs can stand in texts is in SignsTest. */
public final class TermsEdgesTest {
    private static final Check CHECK = new Check();
    private static final String BLANK = "00000000/00000000/00000000/00000000/00000000/00000000/00000000/00000000";

    public static void main(String[] args) {
        rowsAndColumns();
        tooManyRowsAndColumns();
        grass();
        gates();
        gatesAtFirst();
        trodden();
        herds();
        greed();
        ruleOfFortySigns();
        numbers();
        depth();
        divisions();
        intsGoRound();
        minuses();
        others();
        keeps();
        slowOnes();
        fourSides();
        grazing();
        growing();
        grows();
        bitsOfSets();
        looksOn();
        CHECK.close("TermsEdgesTest");
    }

    /** "cells in rows and columns (1 .. 8 each): cell 8 y + x". */
    private static void rowsAndColumns() {
        for (int columns = 1; columns <= 8; columns++) {
            for (int rows = 1; rows <= 8; rows++) {
                String row = "1".repeat(columns);
                RoadsByCows x = new RoadsByCows();
                String what = columns + " columns, " + rows + " rows";
                CHECK.due(what, Check.meadow(x, (row + "/").repeat(rows).substring(0, (columns + 1) * rows - 1)), columns * rows);
                CHECK.due(what + ": columns", x.count(0), columns);
                CHECK.due(what + ": rows", x.count(1), rows);
                CHECK.due(what + ": GRASS in all", x.count(9), columns * rows);
                for (int cell = -9; cell < 73; cell++) {
                    boolean there = cell >= 0 && cell < 64 && cell % 8 < columns && cell / 8 < rows;
                    CHECK.due(what + ": cell " + cell, Check.cell(x, cell, 0), there ? 1 : Check.THROWN);
                }
            }
        }
    }

    /** ".. (1 .. 8 each)": none of 0, none of 9. */
    private static void tooManyRowsAndColumns() {
        CHECK.due("no column", Check.meadow(new RoadsByCows(), ""), -1);
        CHECK.due("no column in the first row", Check.meadow(new RoadsByCows(), "/1"), -1);
        CHECK.due("nine columns", Check.meadow(new RoadsByCows(), "111111111"), -9);
        CHECK.due("nine rows", Check.meadow(new RoadsByCows(), "1/1/1/1/1/1/1/1/1"), -16);
        CHECK.due("eight by eight: 71 signs", Check.meadow(new RoadsByCows(), BLANK), 64);
        CHECK.due("72 signs", Check.meadow(new RoadsByCows(), BLANK + "0"), -72);
        // 76 and more signs: the fault is ahead of the 76th, as no meadow has more than 71.
        CHECK.due("76 signs", Check.meadow(new RoadsByCows(), BLANK + "/0000"), -72);
        CHECK.due("77 signs", Check.meadow(new RoadsByCows(), BLANK + "/00000"), -72);
        CHECK.due("80 signs", Check.meadow(new RoadsByCows(), "0".repeat(80)), -9);
    }

    /** "GRASS 0 .. 9", "a digit (GRASS)". */
    private static void grass() {
        RoadsByCows x = new RoadsByCows();
        Check.meadow(x, "01234/56789");
        for (int i = 0; i < 10; i++) {
            CHECK.due("GRASS " + i, Check.cell(x, i < 5 ? i : i + 3, 0), i);
        }
        CHECK.due("GRASS in all", x.count(9), 45);
        Check.meadow(x, "9".repeat(8) + "/99999999".repeat(7));
        CHECK.due("the most GRASS", x.count(9), 9 * 64);
    }

    /** "a GATE; at most 6 of them, numbered as they are told". */
    private static void gates() {
        RoadsByCows x = new RoadsByCows();
        CHECK.due("six", Check.meadow(x, "0+0+/+00+/00+0/+000"), 16);
        int[] cells = {1, 3, 8, 11, 18, 24};
        CHECK.due("GATES", x.count(2), 6);
        for (int gate = 0; gate < 6; gate++) {
            x.gate(gate, 1);
            CHECK.due("those that are open", x.count(3), 1 << gate);
            for (int other : cells) {
                CHECK.due("cell " + other, Check.cell(x, other, 3), other == cells[gate] ? 3 : 2);
            }
            x.gate(gate, 0);
        }
        CHECK.due("a seventh in a row", Check.meadow(new RoadsByCows(), "+++++++"), -7);
        CHECK.due("a seventh in another row", Check.meadow(new RoadsByCows(), "++++++00/0000000+"), -1 - 16);
        CHECK.due("none", Check.meadow(x, "0#"), 2);
        CHECK.due("none", x.count(2), 0);
    }

    /** "a GATE (shut at first; GRASS 0); SALT 0 .. 9, THISTLES 0 .. 9 (at first 0)". */
    private static void gatesAtFirst() {
        RoadsByCows x = Check.made("++++++/######/012345", "");
        CHECK.due("shut", x.count(3), 0);
        for (int column = 0; column < 6; column++) {
            CHECK.due("GRASS of a GATE", Check.cell(x, column, 0), 0);
            CHECK.due("a GATE is shut", Check.cell(x, column, 3), 2);
            CHECK.due("GRASS of a FENCE", Check.cell(x, 8 + column, 0), 0);
            CHECK.due("a FENCE", Check.cell(x, 8 + column, 3), 1);
            CHECK.due("meadow", Check.cell(x, 16 + column, 3), 0);
            for (int row = 0; row < 3; row++) {
                CHECK.due("no SALT", Check.cell(x, 8 * row + column, 1), 0);
                CHECK.due("no THISTLES", Check.cell(x, 8 * row + column, 2), 0);
            }
        }
    }

    /** "LAST: the HOUR in which a herd trod it last, and which (NONE at first)". */
    private static void trodden() {
        RoadsByCows x = Check.made("00", "a10");
        CHECK.due("LAST at first", Check.cell(x, 1, 4), -1);
        CHECK.due("by which at first", Check.cell(x, 1, 5), -1);
        CHECK.due("no ROAD at first", Check.cell(x, 1, 6), 0);
        CHECK.due("trodden in HOUR 0", Check.cell(x, 0, 4), 0);
        CHECK.due("by herd 0", Check.cell(x, 0, 5), 0);
        // Never trodden is no ROAD, with KEEPS 99 too, when NOW is no more than 99.
        x.set(0, 99);
        Check.rule(x, "0");
        x.hours(60);
        CHECK.due("never trodden", Check.cell(x, 1, 6), 0);
        CHECK.due("one ROAD", x.road(), 1);
    }

    /** "HERDS 0 .. (at most 6)", "LINES with ; between". */
    private static void herds() {
        RoadsByCows x = Check.made(BLANK, "");
        CHECK.due("none", x.count(4), 0);
        CHECK.due("six at once", Check.herds(x, "a10*;h10*;a80*;h80*;d40*;e50*"), 6);
        int[] cells = {0, 7, 56, 63, 27, 36};
        for (int herd = 0; herd < 6; herd++) {
            CHECK.due("herd " + herd, Check.herd(x, herd, 0), cells[herd]);
        }
        CHECK.due("no herd 6", Check.herd(x, 6, 0), Check.THROWN);
        CHECK.due("no room", Check.herds(x, "a10"), -1);
        CHECK.due("six", x.count(4), 6);
        for (int there = 1; there <= 6; there++) {
            RoadsByCows y = Check.made("0", "a10;".repeat(there).substring(0, 4 * there - 1));
            String room = "a10;".repeat(7 - there);
            CHECK.due(there + " and one too many", Check.herds(y, room.substring(0, room.length() - 1)), -1 - 4 * (6 - there));
            CHECK.due(there + " are left", y.count(4), there);
            if (there < 6) {
                CHECK.due(there + " and just as many as there is room for", Check.herds(y, room.substring(0, room.length() - 5)), 6 - there);
                CHECK.due("six", y.count(4), 6);
            }
        }
        // 76 signs and more: the fault is ahead of the 76th, as six LINES have 29 signs at most.
        CHECK.due("77 signs", Check.herds(Check.made("0", ""), "a10*;".repeat(16).substring(0, 77)), -1 - 30);
    }

    /** "GREED 0 .. 9, slow or not; at first it lies". */
    private static void greed() {
        RoadsByCows x = Check.made("0", "a10;a19*;a15");
        int[][] due = {{0, 0, 0, 1}, {0, 9, 1, 1}, {0, 5, 0, 1}};
        for (int herd = 0; herd < 3; herd++) {
            for (int what = 0; what < 4; what++) {
                CHECK.due("herd(" + herd + ", " + what + ")", Check.herd(x, herd, what), due[herd][what]);
            }
        }
        CHECK.due("they lie", x.count(5), 7);
    }

    /** "THE RULE is a text of at most 40 signs". */
    private static void ruleOfFortySigns() {
        RoadsByCows x = Check.made("05", "a10");
        String begun = "0*g+".repeat(9);
        CHECK.due("39 signs", Check.rule(x, begun + "0-m"), 0);
        CHECK.due("39 signs are reckoned to the last", Check.herd(x, 0, 4), 0);
        CHECK.due("40 signs", Check.rule(x, begun + "00+m"), 0);
        CHECK.due("40 signs are reckoned to the last", Check.herd(x, 0, 4), 1);
        CHECK.due("41 signs", Check.rule(x, begun + "000-m"), -41);
        CHECK.due("the rule is the one that it was", Check.herd(x, 0, 4), 1);
        CHECK.due("40 signs, and an end too early", Check.rule(x, begun + "000-"), -41);
        CHECK.due("80 signs", Check.rule(x, "g+".repeat(40)), -41);
        CHECK.due("an early fault in 80", Check.rule(x, "gg".repeat(40)), -2);
        CHECK.due("a fault at the 40th", Check.rule(x, "g+".repeat(19) + "g?+g+g"), -40);
        CHECK.due("one sign", Check.rule(x, "m"), 0);
        CHECK.due("one sign", Check.herd(x, 0, 4), 1);
    }

    /** A herd at a1 goes to b1 if an expression is not 0. */
    private static void isTrue(String expression) {
        RoadsByCows x = Check.made("00", "a10");
        CHECK.due("rule (" + expression + ")*m", Check.rule(x, "(" + expression + ")*m"), 0);
        CHECK.due(expression, Check.herd(x, 0, 4), 1);
    }

    /** "a NUMBER of 1 to 3 digits". */
    private static void numbers() {
        isTrue("0=g");
        isTrue("9=10-1");
        isTrue("10=9+1");
        isTrue("99=100-1");
        isTrue("100=99+1");
        isTrue("999=100*9+99");
        isTrue("000=0");
        isTrue("009=9");
        isTrue("090=90");
        CHECK.due("four digits", Check.rule(new RoadsByCows(), "1000"), -4);
        CHECK.due("four digits", Check.rule(new RoadsByCows(), "0000"), -4);
        CHECK.due("three digits", Check.rule(new RoadsByCows(), "999"), 0);
    }

    /** "an EXPRESSION in ( ) (at most 4 in one another)". */
    private static void depth() {
        for (int deep = 1; deep <= 4; deep++) {
            CHECK.due(deep + " deep", Check.rule(new RoadsByCows(), "(".repeat(deep) + "g" + ")".repeat(deep)), 0);
        }
        for (int deep = 5; deep <= 9; deep++) {
            CHECK.due(deep + " deep", Check.rule(new RoadsByCows(), "(".repeat(deep) + "g" + ")".repeat(deep)), -5);
        }
        CHECK.due("many, not in one another", Check.rule(new RoadsByCows(), "(g)+(g)+(g)+(g)+(g)+(g)+(g)+(g)+(g)"), 0);
        CHECK.due("four, and four", Check.rule(new RoadsByCows(), "((((g))))*((((s))))"), 0);
        CHECK.due("four, and five", Check.rule(new RoadsByCows(), "((((g))))*(((((s)))))"), -15);
        CHECK.due("a fifth late", Check.rule(new RoadsByCows(), "(((g+(s+(t"), -9);
        isTrue("(1+(2+(3)))=6");
    }

    /** "* / (from the left; by 0: 0; cut to 0)". */
    private static void divisions() {
        isTrue("(7/0)=0");
        isTrue("(0/0)=0");
        isTrue("(-7/0)=0");
        isTrue("7/0+3=3");
        isTrue("7/(2-2)*5+1=1");
        isTrue("8/g=0");
        isTrue("7/2=3");
        isTrue("-7/2=-3");
        isTrue("7/-2=-3");
        isTrue("-7/-2=3");
        isTrue("1/2=0");
        isTrue("-1/2=0");
        isTrue("6/3=2");
        isTrue("5/6=0");
    }

    /** "As ints": 2147483648 is 128 * 128 * 128 * 128 * 8, and goes round. */
    private static void intsGoRound() {
        isTrue("128*128*128*128*8<0");
        isTrue("128*128*128*128*8-1>0");
        isTrue("-(128*128*128*128*8)<0");
        isTrue("128*128*128*128*8/-1<0");
        isTrue("128*128*128*128*8/0=0");
        isTrue("128*128*128*128*16=0");
        // Values far apart are compared as they are, not by how they differ.
        isTrue("128*128*128*128*8<1");
        isTrue("1>128*128*128*128*8");
        RoadsByCows x = Check.made("00", "a10");
        Check.rule(x, "128*128*128*128*8*(1-m)+m");
        CHECK.due("what pleases least of all is left", Check.herd(x, 0, 4), 1);
        Check.rule(x, "128*128*128*128*8*m");
        CHECK.due("what pleases least of all is not gone to", Check.herd(x, 0, 4), 0);
    }

    /** "then - ahead of a thing (any many)". */
    private static void minuses() {
        RoadsByCows x = Check.made("00", "a10");
        CHECK.due("38", Check.rule(x, "-".repeat(38) + "m"), 0);
        CHECK.due("38: as it is", Check.herd(x, 0, 4), 1);
        CHECK.due("39", Check.rule(x, "-".repeat(39) + "m"), 0);
        CHECK.due("39: turned round", Check.herd(x, 0, 4), 0);
        CHECK.due("40 and no thing", Check.rule(x, "-".repeat(40)), -41);
        CHECK.due("40 and a thing", Check.rule(x, "-".repeat(40) + "m"), -41);
        isTrue("2---3=-1");
        isTrue("2*--3=6");
        isTrue("-2*-3=6");
        isTrue("--(1+1)=2");
    }

    /** "m 1 if the herd is not at it", "o how many other herds are at it": none, one, all five. */
    private static void others() {
        RoadsByCows alone = Check.made("00", "a10");
        Check.rule(alone, "o*2*(1-m)+m");
        CHECK.due("alone at its own", Check.herd(alone, 0, 4), 1);
        Check.rule(alone, "(o=0)*m");
        CHECK.due("none beside it", Check.herd(alone, 0, 4), 1);
        RoadsByCows x = Check.made("00", "a10;b10;b10;b10;b10;b10");
        for (int herd = 0; herd < 6; herd++) {
            int there = herd == 0 ? 5 : 1;
            int here = herd == 0 ? 0 : 4;
            int other = herd == 0 ? 1 : 0;
            Check.rule(x, "(o=" + there + ")*m");
            CHECK.due("beside herd " + herd, Check.herd(x, herd, 4), other);
            Check.rule(x, "(o=" + here + ")*(1-m)*2+m");
            CHECK.due("at its own, herd " + herd, Check.herd(x, herd, 4), herd == 0 ? 0 : 1);
            Check.rule(x, "(o=" + (here + 1) + ")*(1-m)*2+m");
            CHECK.due("no more at its own, herd " + herd, Check.herd(x, herd, 4), other);
        }
    }

    /** "NOW less LAST KEEPS or less; KEEPS 0 .. 99, at first 12". */
    private static void keeps() {
        for (int keeps : new int[] {-1, 0, 1, 11, 12, 13, 98, 99}) {
            RoadsByCows x = Check.made("00", "a10");
            Check.rule(x, "0");
            if (keeps >= 0) {
                CHECK.due("KEEPS at first", x.set(0, keeps), 12);
            }
            int kept = keeps < 0 ? 12 : keeps;
            x.drive(0, 1);
            int left = kept;
            while (left > 0) {
                int n = Math.min(left, 60);
                x.hours(n);
                left -= n;
            }
            CHECK.due("KEEPS " + kept + ", as many HOURS", Check.cell(x, 0, 6), 1);
            CHECK.due("KEEPS " + kept + ", as many HOURS", x.road(), 2);
            x.hour();
            CHECK.due("KEEPS " + kept + ", one HOUR more", Check.cell(x, 0, 6), 0);
            CHECK.due("KEEPS " + kept + ", one HOUR more", x.road(), 1);
            CHECK.due("where a herd is is ROAD", Check.cell(x, 1, 6), 1);
        }
    }

    /** "a slow one stays in odd HOURS NOW". */
    private static void slowOnes() {
        RoadsByCows x = Check.made("00", "a10*;a10");
        Check.rule(x, "m");
        for (int hour = 1; hour <= 6; hour++) {
            CHECK.due("HOUR " + hour, x.hour(), hour % 2 == 0 ? 2 : 1);
            CHECK.due("HOUR " + hour + ": the slow one lies", Check.herd(x, 0, 3), hour % 2);
            CHECK.due("HOUR " + hour + ": the other does not", Check.herd(x, 1, 3), 0);
        }
    }

    /** "its own, then north (y less), east, south, west; no FENCES, no GATES that are shut": the edges. */
    private static void fourSides() {
        int[] corners = {0, 7, 56, 63};
        int[] firsts = {1, 15, 48, 55};
        String[] told = {"a10", "h10", "a80", "h80"};
        for (int i = 0; i < 4; i++) {
            RoadsByCows x = Check.made(BLANK, told[i]);
            Check.rule(x, "m");
            CHECK.due("from the corner " + corners[i], Check.herd(x, 0, 4), firsts[i]);
            Check.rule(x, "m*(1-r)");
            x.drive(0, firsts[i]);
            x.drive(0, corners[i]);
            int other = corners[i] == 0 ? 8 : corners[i] == 7 ? 6 : corners[i] == 56 ? 57 : 62;
            CHECK.due("the other way from the corner " + corners[i], Check.herd(x, 0, 4), other);
        }
        RoadsByCows y = Check.made("0", "a10");
        Check.rule(y, "m");
        CHECK.due("one cell alone", y.hour(), 0);
        RoadsByCows z = Check.made("#+#/+0+/#+#", "b20");
        Check.rule(z, "m");
        CHECK.due("shut in", z.hour(), 0);
        int[] ways = {1, 10, 17, 8};
        int[] gates = {0, 2, 3, 1};
        for (int i = 3; i >= 0; i--) {
            z.gate(gates[i], 1);
            CHECK.due("by a GATE that is open", Check.herd(z, 0, 4), ways[i]);
        }
    }

    /** "if GRASS is there, it is 1 less; else if SALT is there, that is 1 less". */
    private static void grazing() {
        RoadsByCows x = Check.made("1", "a10");
        x.set(1, 99);
        x.salt(0, 1);
        int[][] due = {{1, 1}, {0, 1}, {0, 0}, {0, 0}};
        for (int hour = 0; hour < 4; hour++) {
            CHECK.due("GRASS in HOUR " + hour, Check.cell(x, 0, 0), due[hour][0]);
            CHECK.due("SALT in HOUR " + hour, Check.cell(x, 0, 1), due[hour][1]);
            x.hour();
        }
    }

    /** "GRASS of each cell (no FENCE, no GATE) at which no herd is is 1 more (9 at most)". */
    private static void growing() {
        RoadsByCows x = Check.made("0789#+", "a10");
        Check.rule(x, "0");
        x.set(1, 1);
        int[][] due = {{0, 8, 9, 9, 0, 0}, {0, 9, 9, 9, 0, 0}, {0, 9, 9, 9, 0, 0}};
        for (int[] cells : due) {
            x.hour();
            for (int cell = 0; cell < 6; cell++) {
                CHECK.due("GRASS of cell " + cell, Check.cell(x, cell, 0), cells[cell]);
            }
        }
    }

    /** "In each HOUR NOW that is a multiple of GROWS (1 .. 99, at first 6)". */
    private static void grows() {
        for (int grows : new int[] {-1, 1, 2, 5, 6, 7, 98, 99}) {
            RoadsByCows x = Check.made("00", "a10");
            Check.rule(x, "0");
            if (grows >= 0) {
                CHECK.due("GROWS at first", x.set(1, grows), 6);
            }
            int every = grows < 0 ? 6 : grows;
            int grass = 0;
            for (int hour = 1; hour <= 200; hour++) {
                x.hour();
                grass = Math.min(9, hour % every == 0 ? grass + 1 : grass);
                CHECK.due("GROWS " + every + ", HOUR " + hour, Check.cell(x, 1, 0), grass);
            }
        }
    }

    /** "Sets of cells, of herds, of GATES are bits": the first and the last. */
    private static void bitsOfSets() {
        RoadsByCows x = Check.made(BLANK, "a10;h80");
        x.road();
        CHECK.due("cells 0 and 63", Check.row(x, 0), 1L | Long.MIN_VALUE);
        RoadsByCows y = Check.made("0++++++", "a10;a10;a10;a10;a10;a10");
        CHECK.due("herds 0 to 5", Check.cell(y, 0, 7), 63);
        CHECK.due("herds 0 to 5 lie", y.count(5), 63);
        CHECK.due("herds 0 to 5 are joined", y.joined(5), 63);
        for (int gate = 0; gate < 6; gate++) {
            y.gate(gate, 1);
        }
        CHECK.due("GATES 0 to 5 are open", y.count(3), 63);
    }

    /** "what is asked of HOURS to come looks on for 100 at most". */
    private static void looksOn() {
        RoadsByCows x = Check.made("0000", "a10;d10");
        Check.rule(x, "(k=100)*m*(i=0)");
        CHECK.due("trodden() in 100", x.trodden(1), 100);
        CHECK.due("where() in 100", x.where(0, 100), 1);
        CHECK.due("where() in 99", x.where(0, 99), 0);
        CHECK.due("where() in 101", x.where(0, 101), -1);
        CHECK.due("roadin() in 100", x.roadin(100), 3);
        CHECK.due("roadin() in 101", x.roadin(101), -1);
        CHECK.due("market() of 100", x.market(1, 100), 1);
        CHECK.due("market() of 99", x.market(1, 99), 0);
        CHECK.due("market() of 101", x.market(1, 101), -1);
        CHECK.due("gates() of 100", x.gates(0, 1, 100), 1);
        CHECK.due("gates() of 101", x.gates(0, 1, 101), -1);
        CHECK.due("lure() of 100", x.lure(1, 100), 0);
        CHECK.due("lure() of 99", x.lure(1, 99), -2);
        CHECK.due("lure() of 101", x.lure(1, 101), -1);
        CHECK.due("hedge() of 99", x.hedge(1, 99), 0);
        CHECK.due("hedge() of 100", x.hedge(1, 100), -2);
        CHECK.due("hedge() of 101", x.hedge(1, 101), -1);
        Check.rule(x, "(k=101)*m*(i=0)");
        CHECK.due("trodden() in 101", x.trodden(1), -2);
        // From another HOUR than 0 it looks on for as many.
        x.hour();
        CHECK.due("trodden() in 100, from HOUR 1", x.trodden(1), 100);
    }
}
