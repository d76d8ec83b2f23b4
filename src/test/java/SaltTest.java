/** Promises 32, 33 and 34: lure, hedge, gates. */
public final class SaltTest {
    private static final Check CHECK = new Check();

    public static void main(String[] args) {
        lure();
        lureWithWhatIsThere();
        lureFromAfar();
        hedge();
        hedgeByTwo();
        gates();
        gatesWithHerds();
        smallestSets();
        sixGates();
        CHECK.close("SaltTest");
    }

    private static void lure() {
        // By the plain rule a herd at b1 goes east from its ROAD: a1 is reached by SALT on it alone.
        RoadsByCows x = Check.made("000#+", "b10");
        CHECK.due("without", x.lure(2, 1), 0);
        CHECK.dueRow("without", x, -1);
        CHECK.due("at it now", x.lure(1, 1), 0);
        CHECK.dueRow("at it now", x, -1);
        CHECK.due("one", x.lure(0, 1), 1);
        CHECK.dueRow("one", x, 0);
        CHECK.due("a FENCE", x.lure(3, 100), -2);
        CHECK.due("a GATE that is shut", x.lure(4, 100), -2);
        CHECK.dueRow("they leave the ROW", x, 0);
        CHECK.due("no HOURS", x.lure(0, 0), -1);
        CHECK.due("too far", x.lure(0, 101), -1);
        CHECK.due("none such", x.lure(5, 1), -1);
        CHECK.due("none such", x.lure(-1, 1), -1);
        Check.rule(x, "0");
        CHECK.due("by none", x.lure(0, 100), -2);
        Check.rule(x, "0-s");
        x.salt(1, 1);
        CHECK.due("one that SALT drives off", x.lure(2, 1), 0);
    }

    private static void lureWithWhatIsThere() {
        RoadsByCows x = Check.made("000", "b10");
        Check.rule(x, "(s=9)*m");
        CHECK.due("nine", x.lure(0, 1), 9);
        CHECK.dueRow("nine", x, 0);
        x.salt(0, 3);
        CHECK.due("six more", x.lure(0, 1), 6);
        CHECK.dueRow("six more", x, 0);
        x.salt(0, 8);
        CHECK.due("one more", x.lure(0, 1), 1);
        Check.rule(x, "(s>8)*m*2+(s=9)*0");
        x.salt(0, 9);
        x.salt(2, 9);
        CHECK.due("east is first", x.lure(2, 1), 0);
        CHECK.due("no more than 9", x.lure(0, 1), -2);
        Check.rule(x, "(s>9)*m");
        CHECK.due("never 10", x.lure(0, 1), -2);
        CHECK.due("it is not laid", Check.cell(x, 0, 1), 9);
        RoadsByCows y = Check.made("000", "b10");
        Check.rule(y, "s");
        CHECK.due("a rule of SALT alone", y.lure(0, 1), 1);
        CHECK.dueRow("a rule of SALT alone", y, 0);
    }

    private static void lureFromAfar() {
        // On which cell: of as little the first, also if it is not the one that is to be trodden.
        RoadsByCows x = Check.made("00000", "b10");
        Check.rule(x, "s*m");
        CHECK.due("d1 in 2", x.lure(3, 2), -2);
        x.salt(3, 4);
        CHECK.due("by c1", x.lure(3, 2), 1);
        CHECK.dueRow("by c1", x, 2);
        RoadsByCows y = Check.made("000/000", "b10");
        Check.rule(y, "m*(s+g)");
        y.set(1, 99);
        y.salt(10, 1);
        CHECK.due("c2 in 2, by c1 or b2", y.lure(10, 2), 1);
        CHECK.dueRow("of as little the first", y, 2);
    }

    private static void hedge() {
        RoadsByCows x = Check.made("000#+", "b10");
        CHECK.due("c1", x.hedge(2, 1), 1);
        CHECK.dueRow("c1", x, 2);
        CHECK.due("a1 in one", x.hedge(0, 1), 0);
        CHECK.dueRow("a1 in one: none", x);
        CHECK.due("a FENCE", x.hedge(3, 100), 0);
        CHECK.due("a GATE that is shut", x.hedge(4, 100), 0);
        CHECK.due("where it is: it goes", x.hedge(1, 1), 0);
        CHECK.due("no HOURS", x.hedge(0, 0), -1);
        CHECK.due("too far", x.hedge(0, 101), -1);
        CHECK.due("none such", x.hedge(5, 1), -1);
        CHECK.due("none such", x.hedge(-1, 1), -1);
        Check.rule(x, "m");
        x.road();
        CHECK.due("it does not mind thistles", x.hedge(2, 1), -2);
        CHECK.due("that leaves the ROW", x.count(11), 3);
        Check.rule(x, "m*(t=0)");
        CHECK.due("of as few the least row", x.hedge(2, 1), 1);
        CHECK.dueRow("of as few the least row", x, 2);
        Check.rule(x, "(1-m)*(t=9)*2+m");
        CHECK.due("thistles where it is keep it", x.hedge(2, 1), 1);
        CHECK.dueRow("thistles where it is keep it", x, 1);
        CHECK.due("nothing was put", Check.cell(x, 1, 2), 0);
        Check.rule(x, "t");
        CHECK.due("one that thistles please", x.hedge(1, 1), 1);
        CHECK.dueRow("one that thistles please", x, 0);
    }

    private static void hedgeByTwo() {
        // From a2 to b1 (much GRASS) by a1 or by b2; thistles on b1 itself are too few.
        RoadsByCows x = Check.made("09/00", "a20");
        Check.rule(x, "m-t+g*20");
        CHECK.due("trodden", x.trodden(1), 2);
        CHECK.due("two", x.hedge(1, 2), 2);
        CHECK.dueRow("two", x, 0, 9);
        CHECK.due("two, for five HOURS", x.hedge(1, 5), 2);
        CHECK.dueRow("two, for five HOURS", x, 0, 9);
        CHECK.due("one HOUR", x.hedge(1, 1), 0);
        x.thistles(9, 9);
        CHECK.due("one is there already", x.hedge(1, 2), 1);
        CHECK.dueRow("one is there already", x, 0);
        // Mirrored: from b1 to a2 by a1 or by b2. The plain cells of a pair are neither FENCES nor GATES.
        RoadsByCows z = Check.made("#+#/+00/#90", "c20");
        Check.rule(z, "m-t+g*20");
        CHECK.due("b3 from c2 by b2 or c3", z.hedge(17, 2), 2);
        CHECK.dueRow("b3 from c2 by b2 or c3", z, 9, 18);
        // Two are too few where three herds come from three sides.
        RoadsByCows y = Check.made("090/000", "b20;a10;c10");
        Check.rule(y, "m-t+g*20");
        CHECK.due("three come at once", y.hedge(1, 1), -2);
    }

    private static void gates() {
        RoadsByCows x = Check.made("0+0", "a10");
        Check.rule(x, "m");
        CHECK.due("it stayed", x.gates(0, 0, 2), 1);
        CHECK.dueRow("it stayed", x, 0, 0);
        CHECK.due("it went", x.gates(0, 2, 2), 1);
        CHECK.dueRow("it went", x, 1, 1);
        CHECK.due("it can't be in it", x.gates(0, 1, 2), 0);
        CHECK.dueRow("it can't be in it", x, -1, 0);
        CHECK.due("no herd", x.gates(1, 0, 2), -1);
        CHECK.due("no herd", x.gates(-1, 0, 2), -1);
        CHECK.due("no cell", x.gates(0, 3, 2), -1);
        CHECK.due("no cell", x.gates(0, -1, 2), -1);
        CHECK.due("no HOURS", x.gates(0, 0, 0), -1);
        CHECK.due("too far", x.gates(0, 0, 101), -1);
        CHECK.dueRow("they leave the ROW", x, -1, 0);
        x.gate(0, 1);
        CHECK.due("as it is now does not tell", x.gates(0, 0, 2), 1);
        CHECK.dueRow("as it is now does not tell", x, 0, 0);
        CHECK.due("it stays open", x.count(3), 1);
        CHECK.due("a hundred HOURS", x.gates(0, 0, 100), 1);
        CHECK.dueRow("a hundred HOURS", x, 0, 0);
        RoadsByCows y = Check.made("0+/+0", "a10");
        Check.rule(y, "m");
        CHECK.due("b2, by the first", y.gates(0, 9, 2), 2);
        CHECK.dueRow("b2, by the first", y, 1, 1);
        CHECK.due("a1", y.gates(0, 0, 2), 2);
        CHECK.dueRow("a1", y, 0, 0);
        RoadsByCows z = Check.made("00", "a10");
        Check.rule(z, "m");
        CHECK.due("no GATES: one set", z.gates(0, 1, 1), 1);
        CHECK.dueRow("no GATES: one set", z, 0, 0);
    }

    private static void gatesWithHerds() {
        // Herd 1 is in the GATE: it is open in all sets.
        RoadsByCows x = Check.made("0+0+0", "a10;c10");
        x.gate(0, 1);
        x.drive(1, 1);
        Check.rule(x, "m*(i=0)");
        CHECK.due("b1", x.gates(0, 1, 1), 2);
        CHECK.dueRow("b1", x, 1, 1);
        CHECK.due("a1: not with it open", x.gates(0, 0, 1), 0);
        CHECK.due("e1 in 4", x.gates(0, 4, 4), 1);
        CHECK.dueRow("e1 in 4", x, 3, 3);
    }

    private static void smallestSets() {
        // From a1 to b2 by b1 (GATE 0), by a2 (GATE 1), or with both.
        RoadsByCows x = Check.made("0+/+9", "a10");
        Check.rule(x, "g*9+m");
        CHECK.due("by either", x.gates(0, 9, 2), 3);
        CHECK.dueRow("of as small ones the least", x, 1, 0);
        // A herd that keeps off the ROAD comes from a1 to c3 by b1 and c1 (GATES 0 and 1), or by a2
        // (GATE 2) if it does not run to and fro behind GATE 0 first.
        RoadsByCows y = Check.made("0++/+#0/009", "a10");
        Check.rule(y, "m-r*5+g");
        CHECK.due("by two or by one", y.gates(0, 18, 4), 4);
        CHECK.dueRow("the smallest, though another has a lesser number", y, 4, 0);
    }

    private static void sixGates() {
        RoadsByCows x = Check.made("0+0+0+0+/+0+00000", "a10");
        Check.rule(x, "m*(k<3)");
        CHECK.due("c1, by the first of six", x.gates(0, 2, 3), 32);
        CHECK.dueRow("c1, by the first of six", x, 1, 1);
        CHECK.due("a1, all shut or by a2 and back", x.gates(0, 0, 2), 32);
        CHECK.dueRow("a1", x, 0, 0);
    }
}
