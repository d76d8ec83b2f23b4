/**
 * Terms 2: refused calls answer NONE, or false, and change nothing but THE TEXT, which a call that
 * reads it empties; nor does a call that answers -2, -100 or -1 - p, or that throws. Of each call of
 * the face that can be refused, each way that the document names.
 */
public final class RefusedTest {
    private static final Check CHECK = new Check();
    private static final Twins TWINS = new Twins(CHECK);
    private static final int MOST = Integer.MAX_VALUE;
    private static final int LEAST = Integer.MIN_VALUE;
    /** Numbers that no cell of the scene has: beyond each edge of it, and far off. */
    private static final int[] NO_CELLS = {-1, 4, 7, 12, 16, 63, 64, 65, MOST, LEAST};
    private static final int[] NO_HERDS = {-1, 2, 5, 6, MOST, LEAST};

    public static void main(String[] args) {
        texts();
        readers();
        throwing();
        acts();
        hours();
        roads();
        coming();
        searches();
        letters();
        kept();
        CHECK.close("RefusedTest");
    }

    private static void refuse(String what, Twins.Call call) {
        TWINS.refuses(what, call, -1);
    }

    private static void cannot(String what, Twins.Call call) {
        TWINS.refuses(what, call, -2);
    }

    private static long bit(boolean b) {
        return b ? 1 : 0;
    }

    private static void texts() {
        TWINS.refuses("end(-1)", x -> bit(x.end(-1)), 0);
        TWINS.refuses("end(3) of two signs", x -> bit(x.end(3)), 0);
        TWINS.refuses("end(most)", x -> bit(x.end(MOST)), 0);
        TWINS.refuses("end(least)", x -> bit(x.end(LEAST)), 0);
        // A meadow of 71 signs and more behind it, at which it can't stand: it is left as it was.
        String full = "00000000/".repeat(9).substring(0, 71);
        for (int length : new int[] {77, 78, 79, 80}) {
            TWINS.refusesText("sign() behind " + length + " signs", x -> {
                Check.tell(x, (full + "#########").substring(0, length));
                long answer = x.sign(0x30303030);
                CHECK.due("it has " + length + " signs", x.count(12), length);
                CHECK.due("they are as they were", x.meadow(), -1 - 71);
                return answer;
            }, -1);
        }
    }

    /** The ways in which a text can't be read are tested with each reader; here, what they leave. */
    private static void readers() {
        for (String words : new String[] {"", "x", "1/", "12/3", "123456789", "+++++++", "1/1/1/1/1/1/1/1/1"}) {
            int fault = faultOfMeadow(words);
            TWINS.refusesText("meadow '" + words + "'", x -> Check.meadow(x, words), fault);
        }
        String[] herds = {"x", "a", "e1", "a3", "c1", "b2", "a1", "a15;", "a15;c14", "a15;a15;a15;a15;a15", "a15*;d15;x"};
        int[] faults = {0, 1, 0, 1, 1, 1, 2, 4, 5, 16, 9};
        for (int i = 0; i < herds.length; i++) {
            String words = herds[i];
            TWINS.refusesText("herds '" + words + "'", x -> Check.herds(x, words), -1 - faults[i]);
        }
        String[] rules = {"x", "g+", "(g", "1234", "(((((", "g<s<t", "g)", "-".repeat(40), "g+".repeat(20) + "g"};
        int[] inRules = {0, 2, 2, 3, 4, 3, 1, 40, 40};
        for (int i = 0; i < rules.length; i++) {
            String words = rules[i];
            TWINS.refusesText("rule '" + words + "'", x -> Check.rule(x, words), -1 - inRules[i]);
        }
        String[] days = {"x", "h;", "h0", "sa1", "sa11;t", "sa19;h9;z", "o1;c1;d0a1;", "h;".repeat(30), "h;".repeat(30) + "h"};
        int[] inDays = {0, 2, 1, 3, 6, 8, 11, 60, 60};
        for (int i = 0; i < days.length; i++) {
            String words = days[i];
            TWINS.refusesText("day '" + words + "'", x -> Check.day(x, words), -1 - inDays[i]);
        }
        String[] brides = {"", "a", "e1", "a3", "a1c", "a1x", "a1".repeat(13)};
        int[] inBrides = {0, 1, 0, 1, 3, 2, 24};
        for (int i = 0; i < brides.length; i++) {
            String words = brides[i];
            TWINS.refusesText("bride '" + words + "'", x -> Check.bride(x, words), -1 - inBrides[i]);
        }
        TWINS.refusesText("bride 'b2', a FENCE", x -> Check.bride(x, "b2"), -100);
        TWINS.refusesText("bride 'a1d2', no ROAD", x -> Check.bride(x, "a1d2"), -100);
        // Not refused, but nothing is told by them.
        TWINS.refusesText("herds ''", x -> Check.herds(x, ""), 0);
    }

    private static int faultOfMeadow(String words) {
        switch (words) {
            case "1/":
                return -3;
            case "12/3":
                return -5;
            case "123456789":
                return -9;
            case "+++++++":
                return -7;
            case "1/1/1/1/1/1/1/1/1":
                return -16;
            default:
                return -1;
        }
    }

    private static void throwing() {
        for (int cell : NO_CELLS) {
            TWINS.refuses("cell(" + cell + ", 0)", x -> Check.cell(x, cell, 0), Check.THROWN);
        }
        for (int what : new int[] {-1, 8, MOST, LEAST}) {
            TWINS.refuses("cell(0, " + what + ")", x -> Check.cell(x, 0, what), Check.THROWN);
        }
        for (int herd : NO_HERDS) {
            TWINS.refuses("herd(" + herd + ", 0)", x -> Check.herd(x, herd, 0), Check.THROWN);
        }
        for (int what : new int[] {-1, 5, MOST, LEAST}) {
            TWINS.refuses("herd(0, " + what + ")", x -> Check.herd(x, 0, what), Check.THROWN);
        }
        for (int i : new int[] {-1, 3, 14, MOST, LEAST}) {
            TWINS.refuses("row(" + i + ")", x -> Check.row(x, i), Check.THROWN);
        }
        for (int what : new int[] {-1, 13, MOST, LEAST}) {
            refuse("count(" + what + ")", x -> x.count(what));
        }
    }

    private static void acts() {
        for (int v : new int[] {-1, 100, MOST, LEAST}) {
            refuse("set(0, " + v + ")", x -> x.set(0, v));
        }
        for (int v : new int[] {-1, 0, 100, MOST, LEAST}) {
            refuse("set(1, " + v + ")", x -> x.set(1, v));
        }
        for (int what : new int[] {-1, 2, MOST, LEAST}) {
            refuse("set(" + what + ", 5)", x -> x.set(what, 5));
        }
        for (int kind = 0; kind < 4; kind++) {
            int k = kind;
            refuse("sheet(" + k + ", 7, 1, 1)", x -> x.sheet(k, 7, 1, 1));
            refuse("sheet(" + k + ", most, 1, 1)", x -> x.sheet(k, MOST, 1, 1));
        }
        for (int kind = 0; kind < 3; kind++) {
            int k = kind;
            cannot("sheet(" + k + ", -1, 1, 1)", x -> x.sheet(k, -1, 1, 1));
            cannot("sheet(" + k + ", least, 1, 1)", x -> x.sheet(k, LEAST, 1, 1));
        }
        for (int kind : new int[] {-1, 4, MOST, LEAST}) {
            for (int n : new int[] {-1, 0, 2, 7}) {
                refuse("sheet(" + kind + ", " + n + ", 1, 1)", x -> x.sheet(kind, n, 1, 1));
            }
        }
        for (int cell : NO_CELLS) {
            refuse("salt(" + cell + ", 1)", x -> x.salt(cell, 1));
            refuse("thistles(" + cell + ", 1)", x -> x.thistles(cell, 1));
            refuse("drive(0, " + cell + ")", x -> x.drive(0, cell));
        }
        for (int v : new int[] {-1, 10, MOST, LEAST}) {
            refuse("salt(0, " + v + ")", x -> x.salt(0, v));
            refuse("thistles(0, " + v + ")", x -> x.thistles(0, v));
        }
        for (int cell : new int[] {2, 9, 11}) {
            cannot("salt(" + cell + ", 1): a GATE, a FENCE", x -> x.salt(cell, 1));
            cannot("thistles(" + cell + ", 1): a GATE, a FENCE", x -> x.thistles(cell, 1));
        }
        gatesAndDogs();
    }

    private static void gatesAndDogs() {
        for (int gate : new int[] {-1, 2, 5, 6, 31, 32, MOST, LEAST}) {
            refuse("gate(" + gate + ", 1)", x -> x.gate(gate, 1));
            refuse("gate(" + gate + ", 0)", x -> x.gate(gate, 0));
        }
        for (int v : new int[] {-1, 2, MOST, LEAST}) {
            refuse("gate(0, " + v + ")", x -> x.gate(0, v));
            refuse("gate(1, " + v + ")", x -> x.gate(1, v));
        }
        for (int herd : NO_HERDS) {
            refuse("drive(" + herd + ", 0)", x -> x.drive(herd, 0));
        }
        // Herd 0 is at a1, herd 1 at c2.
        CHECK.due("herd 0", Check.herd(Twins.scene(), 0, 0), 0);
        CHECK.due("herd 1", Check.herd(Twins.scene(), 1, 0), 10);
        cannot("drive(0, 0): its own cell", x -> x.drive(0, 0));
        cannot("drive(0, 2): two steps off", x -> x.drive(0, 2));
        cannot("drive(0, 9): by a corner, a FENCE", x -> x.drive(0, 9));
        cannot("drive(0, 11): far off", x -> x.drive(0, 11));
        cannot("drive(1, 2): a GATE that is shut", x -> x.drive(1, 2));
        cannot("drive(1, 9): a FENCE", x -> x.drive(1, 9));
        cannot("drive(1, 1): by a corner", x -> x.drive(1, 1));
        cannot("drive(1, 3): by a corner", x -> x.drive(1, 3));
    }

    private static void hours() {
        for (int n : new int[] {-1, 61, MOST, LEAST}) {
            refuse("hours(" + n + ")", x -> x.hours(n));
        }
        // Behind the fourth none is left: the fifth is refused.
        RoadsByCows x = Twins.scene();
        for (int left = 3; left >= 0; left--) {
            CHECK.due("undo()", x.undo(), left);
        }
        x.again(1);
        x.road();
        long roads = Check.row(x, 0);
        CHECK.due("undo() of none", x.undo(), -1);
        CHECK.due("undo() of none: NOW", x.count(6), 3);
        CHECK.due("undo() of none: what can be undone", x.count(10), 0);
        CHECK.due("undo() of none: the ROW", Check.row(x, 0), roads);
        CHECK.due("undo() of none: what is kept", x.again(1), true);
    }

    private static void roads() {
        for (int cell : NO_CELLS) {
            refuse("cart(0, " + cell + ")", x -> x.cart(0, cell));
            refuse("cart(" + cell + ", 0)", x -> x.cart(cell, 0));
            refuse("cart(" + cell + ", 9)", x -> x.cart(cell, 9));
            refuse("furthest(" + cell + ")", x -> x.furthest(cell));
        }
        for (int herd : NO_HERDS) {
            refuse("joined(" + herd + ")", x -> x.joined(herd));
        }
        cannot("cart(1, 9): no ROAD", x -> x.cart(1, 9));
        cannot("cart(9, 1): no ROAD", x -> x.cart(9, 1));
        cannot("cart(9, 9): no ROAD", x -> x.cart(9, 9));
        cannot("cart(1, 10): another piece", x -> x.cart(1, 10));
        cannot("furthest(9): no ROAD", x -> x.furthest(9));
        cannot("least(): with none", x -> x.least());
    }

    private static void coming() {
        for (int n : new int[] {-1, 101, MOST, LEAST}) {
            refuse("where(0, " + n + ")", x -> x.where(0, n));
            refuse("roadin(" + n + ")", x -> x.roadin(n));
        }
        for (int n : new int[] {-1, 0, 101, MOST, LEAST}) {
            refuse("market(0, " + n + ")", x -> x.market(0, n));
        }
        for (int herd : NO_HERDS) {
            refuse("where(" + herd + ", 1)", x -> x.where(herd, 1));
            refuse("round(" + herd + ")", x -> x.round(herd));
        }
        for (int cell : NO_CELLS) {
            refuse("market(" + cell + ", 1)", x -> x.market(cell, 1));
            refuse("trodden(" + cell + ")", x -> x.trodden(cell));
        }
        cannot("trodden(9): a FENCE", x -> x.trodden(9));
        cannot("meets(): not in these", x -> x.meets());
    }

    private static void searches() {
        for (int n : new int[] {-1, 0, 101, MOST, LEAST}) {
            refuse("lure(0, " + n + ")", x -> x.lure(0, n));
            refuse("hedge(0, " + n + ")", x -> x.hedge(0, n));
            refuse("gates(0, 0, " + n + ")", x -> x.gates(0, 0, n));
        }
        for (int cell : NO_CELLS) {
            refuse("lure(" + cell + ", 1)", x -> x.lure(cell, 1));
            refuse("hedge(" + cell + ", 1)", x -> x.hedge(cell, 1));
            refuse("gates(0, " + cell + ", 1)", x -> x.gates(0, cell, 1));
        }
        for (int herd : NO_HERDS) {
            refuse("gates(" + herd + ", 0, 1)", x -> x.gates(herd, 0, 1));
        }
        cannot("lure(9, 100): a FENCE", x -> x.lure(9, 100));
    }

    private static void letters() {
        for (int k : new int[] {-1, 21, MOST, LEAST}) {
            refuse("ways(0, 0, " + k + ")", x -> x.ways(0, 0, k));
        }
        for (int n : new int[] {-1, 41, MOST, LEAST}) {
            refuse("lost(0, 0, " + n + ")", x -> x.lost(0, 0, n));
        }
        for (int cell : NO_CELLS) {
            refuse("ways(0, " + cell + ", 1)", x -> x.ways(0, cell, 1));
            refuse("ways(" + cell + ", 0, 1)", x -> x.ways(cell, 0, 1));
            refuse("lost(0, " + cell + ", 1)", x -> x.lost(0, cell, 1));
            refuse("lost(" + cell + ", 0, 1)", x -> x.lost(cell, 0, 1));
            refuse("letter(" + cell + ")", x -> x.letter(cell));
        }
        refuse("lost(9, 0, 1): from a FENCE", x -> x.lost(9, 0, 1));
        refuse("lost(2, 0, 1): from a GATE that is shut", x -> x.lost(2, 0, 1));
        cannot("letter(9): none comes by", x -> x.letter(9));
    }

    private static void kept() {
        for (int n : new int[] {-1, 0, 61, MOST, LEAST}) {
            refuse("season(1, " + n + ")", x -> x.season(1, n));
        }
        for (int i : new int[] {-1, 2, 31, 32, MOST, LEAST}) {
            TWINS.refuses("keep(" + i + ")", x -> bit(x.keep(i)), 0);
            TWINS.refuses("again(" + i + ")", x -> bit(x.again(i)), 0);
        }
    }
}
