/** The boundary cases of promises 32 to 34: lure, hedge, gates. */
public final class SearchEdgesTest {
    private static final Check CHECK = new Check();
    private static final int MOST = Integer.MAX_VALUE;
    private static final int LEAST = Integer.MIN_VALUE;

    public static void main(String[] args) {
        refusals();
        lureOfOneToNine();
        lureWithout();
        lureInTime();
        lureOnWhat();
        hedgeOfNone();
        hedgeInTime();
        hedgeOfOneAndTwo();
        hedgeOfTwo();
        hedgeOnWhat();
        gatesOfNoneToSix();
        gatesInTime();
        gatesThatAreOpenInAll();
        CHECK.close("SearchEdgesTest");
    }

    /** "(1 .. 100)", "NONE: others". */
    private static void refusals() {
        RoadsByCows x = Check.made("00/00", "a10;b20");
        Check.rule(x, "0");
        for (int n : new int[] {LEAST, -100, -1, 0, 1, 2, 99, 100, 101, 102, MOST}) {
            boolean can = n >= 1 && n <= 100;
            CHECK.due("lure(0, " + n + ")", x.lure(0, n), can ? 0 : -1);
            CHECK.due("hedge(1, " + n + ")", x.hedge(1, n), can ? 0 : -1);
            CHECK.due("gates(1, 9, " + n + ")", x.gates(1, 9, n), can ? 1 : -1);
        }
        for (int cell : new int[] {LEAST, -8, -1, 0, 1, 2, 7, 8, 9, 10, 16, 17, 63, 64, 65, MOST}) {
            boolean is = cell == 0 || cell == 1 || cell == 8 || cell == 9;
            boolean herds = cell == 0 || cell == 9;
            CHECK.due("lure(" + cell + ", 1)", x.lure(cell, 1), !is ? -1 : herds ? 0 : -2);
            CHECK.due("hedge(" + cell + ", 1)", x.hedge(cell, 1), !is ? -1 : herds ? -2 : 0);
            CHECK.due("gates(0, " + cell + ", 1)", x.gates(0, cell, 1), !is ? -1 : cell == 0 ? 1 : 0);
        }
        for (int herd : new int[] {LEAST, -1, 2, 3, 5, 6, MOST}) {
            CHECK.due("gates(" + herd + ", 0, 1)", x.gates(herd, 0, 1), -1);
        }
    }

    /** Promise 32: "1 and more; with what is there 9 at most". */
    private static void lureOfOneToNine() {
        for (int wanted = 1; wanted <= 10; wanted++) {
            for (int there = 0; there <= 9; there++) {
                // A herd at b1 goes to a1 if just so much SALT is there.
                RoadsByCows x = Check.made("000", "b10");
                Check.rule(x, "(s=" + wanted + ")*m");
                x.salt(0, there);
                int want = wanted > 9 || wanted < there ? -2 : wanted - there;
                String what = "SALT " + there + ", " + wanted + " wanted";
                CHECK.due(what, x.lure(0, 1), want);
                if (want >= 0) {
                    CHECK.dueRow(what, x, want == 0 ? -1 : 0);
                } else {
                    CHECK.dueRow(what + ": the ROW is left", x);
                }
                CHECK.due(what + ": it is not laid", Check.cell(x, 0, 1), there);
            }
        }
    }

    /** Promise 32: "(.. or a herd is at it now)"; "0: it is without (the ROW: NONE); -2: by none". */
    private static void lureWithout() {
        RoadsByCows x = Check.made("000", "a10");
        Check.rule(x, "m");
        CHECK.due("where it is, and leaves", x.lure(0, 1), 0);
        CHECK.dueRow("where it is, and leaves", x, -1);
        CHECK.due("where it goes", x.lure(1, 1), 0);
        CHECK.dueRow("where it goes", x, -1);
        CHECK.due("where it goes in 2, in 1", x.lure(2, 1), -2);
        CHECK.dueRow("the ROW is left", x, -1);
        CHECK.due("where it goes in 2", x.lure(2, 2), 0);
        CHECK.due("no herds", Check.made("000", "").lure(1, 100), -2);
    }

    /** Promise 32: "in one of n HOURS". */
    private static void lureInTime() {
        // With SALT on b1 a herd at a1 comes to b1 in HOUR 1; to c1 in HOUR 2, if it then goes on.
        RoadsByCows x = Check.made("000", "a10");
        Check.rule(x, "(s>2)*9*m+(k>1)*m*(1-r)");
        x.set(0, 99);
        CHECK.due("c1 in 1", x.lure(2, 1), -2);
        CHECK.due("c1 in 2", x.lure(2, 2), 3);
        CHECK.dueRow("c1 in 2", x, 1);
        CHECK.due("c1 in 3: it comes without", x.lure(2, 3), 0);
        CHECK.dueRow("c1 in 3: it comes without", x, -1);
        RoadsByCows y = Check.made("00", "a10");
        Check.rule(y, "(k=100)*(s>0)*m");
        CHECK.due("b1 in 99", y.lure(1, 99), -2);
        CHECK.due("b1 in 100", y.lure(1, 100), 1);
        CHECK.dueRow("b1 in 100", y, 1);
    }

    /** Promise 32: "laid besides on one cell (.. no FENCE, no GATE) .. of as little the first". */
    private static void lureOnWhat() {
        RoadsByCows x = Check.made("0+0", "a10");
        Check.rule(x, "(s>0)*m");
        x.gate(0, 1);
        CHECK.due("no SALT lies in a GATE", x.lure(1, 100), -2);
        RoadsByCows y = Check.made("000", "a10");
        Check.rule(y, "(s>0)*m");
        CHECK.due("on a cell", y.lure(1, 100), 1);
        CHECK.dueRow("on a cell", y, 1);
        // Less on a later cell comes before more on the first.
        RoadsByCows z = Check.made("000/000", "b10");
        Check.rule(z, "(s>2)*m+(s>5)*m*9");
        z.salt(2, 1);
        CHECK.due("to a1 by SALT on it", z.lure(0, 1), 3);
        CHECK.dueRow("to a1 by SALT on it", z, 0);
        CHECK.due("to c1 by 2 more", z.lure(2, 1), 2);
        CHECK.dueRow("to c1 by 2 more", z, 2);
        // SALT where a herd is can drive it off: 1 is enough on b1 or on c1, b1 is the first.
        RoadsByCows w = Check.made("000", "b10");
        Check.rule(w, "s*(2*m-1)");
        w.salt(2, 0);
        CHECK.due("by its own cell's SALT", w.lure(2, 1), 1);
        CHECK.dueRow("by its own cell's SALT", w, 1);
        RoadsByCows v = Check.made("0".repeat(8) + "/00000000".repeat(7), "h80");
        Check.rule(v, "s*m");
        CHECK.due("on the last cell but one", v.lure(62, 1), 1);
        CHECK.dueRow("on the last cell but one", v, 62);
    }

    /** Promise 33: "The fewest cells (0 .. 2)": 0, with an empty ROW. */
    private static void hedgeOfNone() {
        RoadsByCows x = Check.made("0000#+", "a10");
        Check.rule(x, "m");
        x.road();
        CHECK.due("where it is, and leaves", x.hedge(0, 1), 0);
        CHECK.dueRow("where it is, and leaves", x);
        CHECK.due("a FENCE", x.hedge(4, 100), 0);
        CHECK.dueRow("a FENCE", x);
        CHECK.due("a GATE that is shut", x.hedge(5, 100), 0);
        CHECK.due("no herds", Check.made("00", "").hedge(0, 100), 0);
    }

    /** Promise 33: "is trodden in none of n HOURS (1 .. 100)". */
    private static void hedgeInTime() {
        RoadsByCows x = Check.made("0000", "a10");
        Check.rule(x, "m*(1-r)-t");
        x.set(0, 99);
        CHECK.due("d1 in 2", x.hedge(3, 2), 0);
        CHECK.due("d1 in 3", x.hedge(3, 3), 1);
        CHECK.dueRow("d1 in 3: of as few the least row", x, 1);
        RoadsByCows y = Check.made("00", "a10");
        Check.rule(y, "(k=100)*m-t");
        CHECK.due("b1 in 99", y.hedge(1, 99), 0);
        CHECK.dueRow("b1 in 99", y);
        CHECK.due("b1 in 100", y.hedge(1, 100), 1);
        CHECK.dueRow("b1 in 100", y, 1);
        // It stays where it is: trodden in HOUR 1 already.
        Check.rule(y, "0-t*m");
        CHECK.due("a1 in 1", y.hedge(0, 1), -2);
        Check.rule(y, "0-t");
        CHECK.due("a1 in 1, thistles where it is", y.hedge(0, 1), 1);
        CHECK.dueRow("a1 in 1, thistles where it is", y, 0);
    }

    /** Promise 33: "they, rising: of as few the least row .. -2: not by 2". */
    private static void hedgeOfOneAndTwo() {
        // Herds beside b2 on one, two and three sides: each stays only for thistles where it is.
        String[] herds = {"b10", "b10;a20", "b10;a20;c20"};
        int[] due = {1, 2, -2};
        for (int i = 0; i < 3; i++) {
            RoadsByCows x = Check.made("000/090/000", herds[i]);
            Check.rule(x, "g+(1-m)*(t=9)*99");
            CHECK.due(herds[i], x.hedge(9, 1), due[i]);
        }
        RoadsByCows one = Check.made("000/090/000", "b10;a20");
        Check.rule(one, "g+(1-m)*(t=9)*99");
        CHECK.due("one each", one.hedge(9, 1), 2);
        CHECK.dueRow("one each: rising", one, 1, 8);
        RoadsByCows two = Check.made("000/090/000", "c20;b30");
        Check.rule(two, "g+(1-m)*(t=9)*99");
        CHECK.due("one each", two.hedge(9, 1), 2);
        CHECK.dueRow("one each: rising", two, 10, 17);
        // Of as few the least row: b1 where it is, or b2 itself.
        RoadsByCows three = Check.made("000/090/000", "b10");
        Check.rule(three, "g*(t=0)+(1-m)*(t=9)*99");
        CHECK.due("b1 or b2", three.hedge(9, 1), 1);
        CHECK.dueRow("b1 or b2", three, 1);
        RoadsByCows four = Check.made("000/090/000", "b30");
        Check.rule(four, "g*(t=0)+(1-m)*(t=9)*99");
        CHECK.due("b2 or b3", four.hedge(9, 1), 1);
        CHECK.dueRow("b2 or b3", four, 9);
        RoadsByCows last = Check.made("0".repeat(8) + "/00000000".repeat(7), "h80");
        Check.rule(last, "m*(1-r)-t");
        CHECK.due("h7 from h8", last.hedge(55, 1), 1);
        CHECK.dueRow("h7 from h8", last, 55);
    }

    /** Promise 33: two that are one beside the other, and one that tells only with the other. */
    private static void hedgeOfTwo() {
        // b1 goes to b2 at once, a1 comes by a2; both stay only for thistles where they are.
        RoadsByCows x = Check.made("000/590", "a10;b10");
        Check.rule(x, "g+(1-m)*(t=9)*99");
        x.set(1, 99);
        CHECK.due("in 1: b1 alone", x.hedge(9, 1), 1);
        CHECK.dueRow("in 1: b1 alone", x, 1);
        CHECK.due("in 2: a1 and b1", x.hedge(9, 2), 2);
        CHECK.dueRow("in 2: a1 and b1", x, 0, 1);
        // From a2 it goes to b2 at once; with thistles there by a1 and b1, where it was not before.
        RoadsByCows y = Check.made("00#/090", "a20");
        Check.rule(y, "m*9-t+g");
        y.set(1, 99);
        CHECK.due("in 1", y.hedge(9, 1), 1);
        CHECK.dueRow("in 1", y, 9);
        CHECK.due("in 2", y.hedge(9, 2), 1);
        CHECK.due("in 3", y.hedge(9, 3), 2);
        CHECK.dueRow("in 3", y, 1, 9);
        CHECK.due("in 5", y.hedge(9, 5), 2);
        CHECK.dueRow("in 5", y, 1, 9);
    }

    /** Promise 33: "(no FENCES, no GATES)"; what has THISTLES 9 already is not put any on. */
    private static void hedgeOnWhat() {
        RoadsByCows x = Check.made("0+", "a10");
        x.gate(0, 1);
        Check.rule(x, "m*(t=0)");
        CHECK.due("no thistles in a GATE", x.hedge(1, 1), -2);
        RoadsByCows y = Check.made("00", "a10");
        Check.rule(y, "m*(t=0)");
        CHECK.due("on a cell", y.hedge(1, 1), 1);
        CHECK.dueRow("on a cell", y, 1);
        y.thistles(1, 8);
        CHECK.due("there are some", y.hedge(1, 1), 0);
        Check.rule(y, "m*(t<9)");
        CHECK.due("just 9", y.hedge(1, 1), 1);
        CHECK.dueRow("just 9", y, 1);
        y.thistles(1, 9);
        CHECK.due("9 are there", y.hedge(1, 1), 0);
        Check.rule(y, "m*(t<10)");
        CHECK.due("never 10", y.hedge(1, 1), -2);
        CHECK.due("nothing is put", Check.cell(y, 0, 2), 0);
    }

    /** Promise 34: "Sets of GATES (all others shut)": 1 to 64 of them, "(bits; .. NONE) .. (0 without)". */
    private static void gatesOfNoneToSix() {
        for (int gates = 0; gates <= 6; gates++) {
            RoadsByCows x = Check.made("0" + "+".repeat(gates), "a10");
            Check.rule(x, "0");
            for (int n : new int[] {1, 100}) {
                CHECK.due(gates + " GATES: all sets", x.gates(0, 0, n), 1 << gates);
                CHECK.dueRow(gates + " GATES: all sets", x, 0, 0);
            }
            Check.rule(x, "m*(1-r)");
            x.set(0, 99);
            if (gates > 1) {
                CHECK.due(gates + " GATES: too soon", x.gates(0, gates, gates - 1), 0);
                CHECK.dueRow(gates + " GATES: too soon", x, -1, 0);
            }
            if (gates > 0) {
                // In the last of a row of GATES it is by all of them alone.
                CHECK.due(gates + " GATES: by all", x.gates(0, gates, gates), 1);
                CHECK.dueRow(gates + " GATES: by all", x, (1 << gates) - 1, (1 << gates) - 1);
                // At the first GATE in HOUR 1 it is with each set that has it.
                CHECK.due(gates + " GATES: by the first", x.gates(0, 1, 1), 1 << (gates - 1));
                CHECK.dueRow(gates + " GATES: by the first", x, 1, 1);
            }
            CHECK.due(gates + " GATES: they are as they were", x.count(3), 0);
        }
        RoadsByCows y = Check.made("0+0", "a10");
        Check.rule(y, "0");
        CHECK.due("none", y.gates(0, 2, 100), 0);
        CHECK.dueRow("none", y, -1, 0);
    }

    /** Promise 34: "so that a herd is at a cell in n HOURS (1 .. 100)". */
    private static void gatesInTime() {
        RoadsByCows x = Check.made("0+", "a10");
        Check.rule(x, "(k=100)*m");
        CHECK.due("in 99", x.gates(0, 1, 99), 0);
        CHECK.dueRow("in 99", x, -1, 0);
        CHECK.due("in 100", x.gates(0, 1, 100), 1);
        CHECK.dueRow("in 100", x, 1, 1);
        CHECK.due("where it is, in 99", x.gates(0, 0, 99), 2);
        CHECK.due("where it is, in 100", x.gates(0, 0, 100), 1);
        CHECK.dueRow("where it is, in 100", x, 0, 0);
        // It is there behind just n HOURS, not on the way.
        RoadsByCows y = Check.made("0+0", "a10");
        Check.rule(y, "m");
        CHECK.due("in it in 1", y.gates(0, 1, 1), 1);
        CHECK.due("in it in 2", y.gates(0, 1, 2), 0);
        CHECK.due("beyond in 2", y.gates(0, 2, 2), 1);
    }

    /** Promise 34: "(GATES in which a herd is are open in all.)" */
    private static void gatesThatAreOpenInAll() {
        RoadsByCows x = Check.made("+0+0+/0+0+0", "b10;d10");
        for (int gate = 0; gate < 5; gate++) {
            x.gate(gate, 1);
        }
        Check.rule(x, "0");
        CHECK.due("none in one", x.gates(0, 1, 1), 32);
        CHECK.dueRow("none in one", x, 0, 0);
        x.drive(0, 0);
        CHECK.due("a herd in GATE 0", x.gates(1, 3, 1), 16);
        CHECK.dueRow("a herd in GATE 0", x, 1, 1);
        x.drive(1, 4);
        CHECK.due("herds in GATES 0 and 2", x.gates(1, 4, 100), 8);
        CHECK.dueRow("herds in GATES 0 and 2", x, 5, 5);
        CHECK.due("no herd there", x.gates(1, 3, 1), 0);
        CHECK.dueRow("no herd there", x, -1, 0);
        x.drive(1, 3);
        x.drive(1, 11);
        CHECK.due("herds in GATES 0 and 4", x.gates(0, 0, 1), 8);
        CHECK.dueRow("herds in GATES 0 and 4", x, 17, 17);
    }
}
