/** Promises 15, 16 and 17 (and their undo, 18): hour, hours, day. */
public final class HoursTest {
    private static final Check CHECK = new Check();

    public static void main(String[] args) {
        hour();
        turnsByNumber();
        orderOfCells();
        edgesAndFences();
        grazing();
        growing();
        slowOnes();
        hours();
        day();
        dayStops();
        dayFaults();
        dayUndone();
        CHECK.close("HoursTest");
    }

    private static void hour() {
        RoadsByCows x = Check.made("000", "a10;c10");
        Check.rule(x, "(i=0)*m");
        CHECK.due("one moves", x.hour(), 1);
        CHECK.dueRow("where each is", x, 1, 2);
        CHECK.due("NOW", x.count(6), 1);
        CHECK.due("who lies", x.count(5), 2);
        CHECK.due("trodden", Check.cell(x, 1, 4), 1);
        CHECK.due("trodden by one that stays too", Check.cell(x, 2, 4), 1);
        CHECK.due("left behind", Check.cell(x, 0, 4), 0);
        Check.rule(x, "m");
        CHECK.due("both move", x.hour(), 2);
        CHECK.dueRow("where each is", x, 2, 1);
        RoadsByCows y = new RoadsByCows();
        CHECK.due("no cells", y.hour(), 0);
        CHECK.dueRow("no cells", y);
        CHECK.due("NOW", y.count(6), 1);
        CHECK.due("it can be undone", y.undo(), 0);
        CHECK.due("NOW", y.count(6), 0);
    }

    private static void turnsByNumber() {
        // Herd 0 goes ahead of herd 1, which sees it where it is then, and the ROAD that it trod.
        RoadsByCows x = Check.made("000", "a10;c10");
        Check.rule(x, "m*(1-o*5)");
        CHECK.due("the second sees the first", x.hour(), 1);
        CHECK.dueRow("where each is", x, 1, 2);
        RoadsByCows y = Check.made("000", "c10;a10");
        Check.rule(y, "m*(1-r*5)");
        y.set(0, 0);
        CHECK.due("and its ROAD", y.hour(), 1);
        CHECK.dueRow("where each is", y, 1, 0);
        // GRASS that the first ate is not there for the second.
        RoadsByCows z = Check.made("010", "a10;c10");
        Check.rule(z, "g");
        CHECK.due("and what it ate", z.hour(), 1);
        CHECK.dueRow("where each is", z, 1, 2);
        // k is the HOUR that goes by.
        Check.rule(z, "(k=2)*m*(i=0)");
        CHECK.due("in HOUR 2", z.hour(), 1);
        CHECK.due("not in HOUR 3", z.hour(), 0);
    }

    private static int goesTo(String meadow, String rule) {
        RoadsByCows x = Check.made(meadow, "b20");
        Check.rule(x, rule);
        x.hour();
        return (int) Check.herd(x, 0, 0);
    }

    private static void orderOfCells() {
        CHECK.due("its own first", goesTo("000/000/000", "5"), 9);
        CHECK.due("then north", goesTo("000/000/000", "m"), 1);
        CHECK.due("then east", goesTo("0#0/000/000", "m"), 10);
        CHECK.due("then south", goesTo("0#0/00#/000", "m"), 17);
        CHECK.due("then west", goesTo("0#0/00#/0#0", "m"), 8);
        CHECK.due("the one that pleases most: south", goesTo("010/201/030", "g"), 17);
        CHECK.due("the one that pleases most: west", goesTo("010/401/030", "g"), 8);
        CHECK.due("of equal ones the first", goesTo("000/204/040", "g"), 10);
        CHECK.due("what pleases may be below 0", goesTo("090/909/080", "0-g-(1-m)*9"), 17);
        CHECK.due("not by corners", goesTo("909/000/909", "g"), 9);
    }

    private static void edgesAndFences() {
        RoadsByCows x = Check.made("00000000/00000000", "h10;a20");
        Check.rule(x, "m");
        CHECK.due("both move", x.hour(), 2);
        CHECK.dueRow("h1 goes south, a2 north", x, 15, 0);
        RoadsByCows w = Check.made("00000009/00000000/00000000/90000000", "a20;h30");
        Check.rule(w, "g");
        CHECK.due("rows do not run on: h1 is not beside a2", Check.herd(w, 0, 4), 8);
        CHECK.due("rows do not run on: a4 is not beside h3", Check.herd(w, 1, 4), 23);
        RoadsByCows v = Check.made("00000009/00000000/90000000", "g10;h10");
        Check.rule(v, "g");
        CHECK.due("g1 to h1", Check.herd(v, 0, 4), 7);
        Check.rule(v, "0-g");
        CHECK.due("h1 to h2", Check.herd(v, 1, 4), 15);
        RoadsByCows u = Check.made("0/0/0/0/0/0/0/0", "a80");
        Check.rule(u, "m");
        CHECK.due("a8 to a7", u.hour(), 1);
        CHECK.dueRow("a8 to a7", u, 48);
        RoadsByCows y = Check.made("0+#", "a10");
        Check.rule(y, "m");
        CHECK.due("a shut GATE", y.hour(), 0);
        y.gate(0, 1);
        CHECK.due("an open one", y.hour(), 1);
        CHECK.dueRow("in it", y, 1);
        CHECK.due("a FENCE beyond", y.hour(), 1);
        CHECK.dueRow("and back", y, 0);
        CHECK.due("a GATE is trodden", Check.cell(y, 1, 4), 2);
    }

    private static void grazing() {
        RoadsByCows x = Check.made("2", "a10");
        x.set(1, 99);
        x.salt(0, 1);
        x.hour();
        CHECK.due("GRASS 1 less", Check.cell(x, 0, 0), 1);
        CHECK.due("SALT is left", Check.cell(x, 0, 1), 1);
        x.hour();
        CHECK.due("GRASS gone", Check.cell(x, 0, 0), 0);
        CHECK.due("SALT is left", Check.cell(x, 0, 1), 1);
        x.hour();
        CHECK.due("SALT 1 less", Check.cell(x, 0, 1), 0);
        x.hour();
        CHECK.due("none below 0", Check.cell(x, 0, 0), 0);
        CHECK.due("none below 0", Check.cell(x, 0, 1), 0);
        RoadsByCows y = Check.made("9", "a10;a10;a10");
        y.hour();
        CHECK.due("each of three", Check.cell(y, 0, 0), 6);
    }

    private static void growing() {
        RoadsByCows x = Check.made("089#+", "a10");
        Check.rule(x, "0");
        x.hours(5);
        CHECK.due("not yet", x.count(9), 17);
        x.hour();
        CHECK.due("one more", Check.cell(x, 1, 0), 9);
        CHECK.due("9 at most", Check.cell(x, 2, 0), 9);
        CHECK.due("not where a herd is", Check.cell(x, 0, 0), 0);
        CHECK.due("not on a FENCE", Check.cell(x, 3, 0), 0);
        CHECK.due("not in a GATE", Check.cell(x, 4, 0), 0);
        RoadsByCows y = Check.made("00", "a10");
        Check.rule(y, "0");
        y.set(1, 2);
        y.hours(7);
        CHECK.due("HOURS 2, 4, 6", Check.cell(y, 1, 0), 3);
        y.set(1, 1);
        y.hour();
        CHECK.due("each HOUR", Check.cell(y, 1, 0), 4);
        // It grows behind the turns: the cell that a herd left grows, the one to which it came not.
        RoadsByCows z = Check.made("00", "a10");
        Check.rule(z, "m");
        z.set(1, 1);
        z.hour();
        CHECK.due("left", Check.cell(z, 0, 0), 1);
        CHECK.due("come to", Check.cell(z, 1, 0), 0);
    }

    private static void slowOnes() {
        RoadsByCows x = Check.made("0000", "a10*");
        Check.rule(x, "m");
        CHECK.due("HOUR 1", x.hour(), 0);
        CHECK.due("it lies", x.count(5), 1);
        CHECK.due("it treads", Check.cell(x, 0, 4), 1);
        CHECK.due("HOUR 2", x.hour(), 1);
        CHECK.due("HOUR 3", x.hour(), 0);
        CHECK.due("HOUR 4", x.hour(), 1);
        CHECK.dueRow("where it is", x, 2);
        RoadsByCows y = Check.made("9", "a10*");
        y.hour();
        CHECK.due("one that stays grazes", Check.cell(y, 0, 0), 8);
    }

    private static void hours() {
        RoadsByCows x = Check.made("0000", "a10;b10*");
        Check.rule(x, "m");
        CHECK.due("none", x.hours(0), 0);
        CHECK.dueRow("none", x, 0, 1);
        CHECK.due("none to be undone", x.count(10), 0);
        CHECK.due("three", x.hours(3), 3 + 1);
        CHECK.dueRow("three", x, 3, 2);
        CHECK.due("NOW", x.count(6), 3);
        CHECK.due("as one", x.count(10), 1);
        CHECK.due("sixty", x.hours(60), 60 + 30);
        CHECK.due("NOW", x.count(6), 63);
        CHECK.due("too many", x.hours(61), -1);
        CHECK.due("too few", x.hours(-1), -1);
        CHECK.due("too few", x.hours(Integer.MIN_VALUE), -1);
        CHECK.due("NOW", x.count(6), 63);
        CHECK.due("the ROW stays", x.count(11), 2);
        CHECK.due("undone as one", x.undo(), 1);
        CHECK.due("NOW", x.count(6), 3);
        CHECK.due("undone as one", x.undo(), 0);
        CHECK.due("NOW", x.count(6), 0);
    }

    private static void day() {
        RoadsByCows x = Check.made("000/0+0", "a10;c10*");
        Check.rule(x, "(i=1)*m");
        CHECK.due("all of it", Check.day(x, "sb13;tc24;o0;h2;d0a2;c0;h"), 7);
        CHECK.dueRow("all of it", x, 0, 1);
        CHECK.due("SALT", Check.cell(x, 1, 1), 3);
        CHECK.due("THISTLES", Check.cell(x, 10, 2), 4);
        CHECK.due("shut again", x.count(3), 0);
        CHECK.due("NOW", x.count(6), 3);
        CHECK.due("driven", Check.herd(x, 0, 0), 8);
        CHECK.due("gone", Check.herd(x, 1, 0), 10);
        CHECK.due("undone as one", x.count(10), 1);
        CHECK.due("an empty one", Check.day(x, ""), 0);
        CHECK.dueRow("an empty one", x, 0, 0);
        CHECK.due("nothing more to be undone", x.count(10), 1);
        CHECK.due("nine HOURS", Check.day(x, "h9"), 1);
        CHECK.due("NOW", x.count(6), 12);
        RoadsByCows y = new RoadsByCows();
        CHECK.due("no cells", Check.day(y, "h;h3"), 2);
        CHECK.due("NOW", y.count(6), 4);
    }

    private static void dayStops() {
        RoadsByCows x = Check.made("000/0+#", "a10;a10");
        Check.rule(x, "m");
        CHECK.due("a FENCE", Check.day(x, "h2;sc21;h"), 1);
        CHECK.dueRow("a FENCE", x, 1, 4);
        CHECK.due("the rest is not done", x.count(6), 2);
        CHECK.due("a cell that is not there", Check.day(x, "td11;h"), 0);
        CHECK.dueRow("a cell that is not there", x, 1, 0);
        CHECK.due("a cell that is not there", Check.day(x, "sa31;h"), 0);
        CHECK.due("a GATE that is not there", Check.day(x, "o1"), 0);
        CHECK.due("a GATE that is not there", Check.day(x, "sa14;c9"), 1);
        CHECK.due("dogs: no herd", Check.day(x, "d2a1"), 0);
        CHECK.due("dogs: its own cell", Check.day(x, "d0c1"), 0);
        CHECK.due("dogs: a cell that is not there", Check.day(x, "d0d1"), 0);
        CHECK.due("dogs: a FENCE", Check.day(x, "d0c2"), 0);
        CHECK.due("a herd in a GATE", Check.day(x, "o0;d0b1;d0b2;c0;h"), 3);
        CHECK.dueRow("a herd in a GATE", x, 1, 0);
        CHECK.due("three could be undone", x.count(10), 3);
    }

    private static void due(String words, int want) {
        RoadsByCows x = Check.made("000/000/000", "a10");
        x.hour();
        int now = x.count(6);
        CHECK.due("day '" + words + "'", Check.day(x, words), want);
        if (want < 0) {
            CHECK.due("day '" + words + "': NOW", x.count(6), now);
            CHECK.due("day '" + words + "': undo", x.count(10), 1);
            CHECK.due("day '" + words + "': ROW", x.count(11), 1);
        }
    }

    private static String repeated(String part, int times) {
        StringBuilder words = new StringBuilder();
        for (int i = 0; i < times; i++) {
            words.append(part);
        }
        return words.toString();
    }

    private static void dayFaults() {
        due("x", -1);
        due(";", -1);
        due("h0", -2);
        due("hx", -2);
        due("h12", -3);
        due("h;", -3);
        due("h;;h", -3);
        due("hh", -2);
        due("s", -2);
        due("si11", -2);
        due("s1", -2);
        due("sa", -3);
        due("sa0", -3);
        due("sa9", -3);
        due("sa1", -4);
        due("sa1x", -4);
        due("sa1;", -4);
        due("sa123", -5);
        due("sh80", 0);
        due("t", -2);
        due("ta19", 1);
        due("ta1", -4);
        due("o", -2);
        due("oa", -2);
        due("o12", -3);
        due("c", -2);
        due("c;", -2);
        due("d", -2);
        due("da", -2);
        due("d0", -3);
        due("d01", -3);
        due("d0i", -3);
        due("d0a", -4);
        due("d0a9", -4);
        due("d0a11", -5);
        due("h;h;x", -5);
        due("h;sa11;d0a", -11);
        String sixty = repeated("h;", 28) + "sa11";
        due(sixty, 29);
        due(sixty.substring(0, 59), -60);
        due(sixty + ";", -61);
        due(sixty + "x", -61);
        due(sixty + ";h", -61);
        due(repeated("h;", 40), -61);
        due(repeated("h;", 30), -61);
        due(repeated("h;", 29) + "x;h;h;h", -59);
    }

    private static void dayUndone() {
        RoadsByCows x = Check.made("000", "a10");
        Check.rule(x, "m");
        Check.day(x, "h2;sa13;d0b1;xx");
        CHECK.due("a refused one can't be", x.undo(), -1);
        Check.day(x, "sa13;h2;d0b1;o5;h");
        CHECK.due("one of which some were done", x.undo(), 0);
        CHECK.due("where it was", Check.herd(x, 0, 0), 0);
        CHECK.due("SALT", Check.cell(x, 0, 1), 0);
        CHECK.due("NOW", x.count(6), 0);
        CHECK.due("LAST", Check.cell(x, 1, 4), -1);
        // A day of which nothing was done must not push out the oldest of ten.
        for (int i = 0; i < 10; i++) {
            x.salt(0, i);
        }
        Check.day(x, "o5");
        CHECK.due("ten are left", x.count(10), 10);
        for (int i = 9; i >= 0; i--) {
            x.undo();
        }
        CHECK.due("SALT", Check.cell(x, 0, 1), 0);
        CHECK.due("none is left", x.undo(), -1);
    }
}
