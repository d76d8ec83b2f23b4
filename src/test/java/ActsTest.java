/** Promises 9 and 11 to 14, and undo() of them (18): set, salt, thistles, gate, drive. */
public final class ActsTest {
    private static final Check CHECK = new Check();

    public static void main(String[] args) {
        set();
        salt();
        thistles();
        gate();
        gateWithHerd();
        drive();
        undo();
        undoKeepsTen();
        undoneAreHerdsToo();
        CHECK.close("ActsTest");
    }

    private static void set() {
        RoadsByCows x = Check.made("00", "a10");
        CHECK.due("KEEPS to 0", x.set(0, 0), 12);
        CHECK.due("KEEPS to 99", x.set(0, 99), 0);
        CHECK.due("KEEPS as it is", x.set(0, 99), 99);
        CHECK.due("GROWS to 1", x.set(1, 1), 6);
        CHECK.due("GROWS to 99", x.set(1, 99), 1);
        int[][] refused = {{0, -1}, {0, 100}, {1, 0}, {1, -1}, {1, 100}, {2, 5}, {-1, 5}, {0, Integer.MIN_VALUE}, {1, Integer.MAX_VALUE}};
        for (int[] r : refused) {
            CHECK.due("set(" + r[0] + ", " + r[1] + ")", x.set(r[0], r[1]), -1);
        }
        CHECK.due("KEEPS", x.count(7), 99);
        CHECK.due("GROWS", x.count(8), 99);
        CHECK.due("it is not undone", x.undo(), -1);
    }

    private static void salt() {
        RoadsByCows x = Check.made("0#/+0", "a10");
        CHECK.due("salt", x.salt(0, 9), 0);
        CHECK.due("salt again", x.salt(0, 4), 9);
        CHECK.due("the same", x.salt(0, 4), 4);
        CHECK.due("none", x.salt(0, 0), 4);
        CHECK.due("another cell", x.salt(9, 5), 0);
        CHECK.due("it is there", Check.cell(x, 9, 1), 5);
        CHECK.due("what can be undone", x.count(10), 5);
        CHECK.due("a FENCE", x.salt(1, 5), -2);
        CHECK.due("a GATE", x.salt(8, 5), -2);
        CHECK.due("no cell", x.salt(2, 5), -1);
        CHECK.due("no cell", x.salt(-1, 5), -1);
        CHECK.due("no cell", x.salt(64, 5), -1);
        CHECK.due("too much", x.salt(0, 10), -1);
        CHECK.due("too little", x.salt(0, -1), -1);
        CHECK.due("refused ones are not undone", x.count(10), 5);
        CHECK.due("nor done", Check.cell(x, 0, 1), 0);
    }

    private static void thistles() {
        RoadsByCows x = Check.made("0#/+0", "a10");
        CHECK.due("thistles", x.thistles(0, 9), 0);
        CHECK.due("thistles again", x.thistles(0, 4), 9);
        CHECK.due("they are there", Check.cell(x, 0, 2), 4);
        CHECK.due("no salt came", Check.cell(x, 0, 1), 0);
        CHECK.due("what can be undone", x.count(10), 2);
        CHECK.due("a FENCE", x.thistles(1, 5), -2);
        CHECK.due("a GATE", x.thistles(8, 5), -2);
        CHECK.due("no cell", x.thistles(2, 5), -1);
        CHECK.due("no cell", x.thistles(Integer.MIN_VALUE, 5), -1);
        CHECK.due("too many", x.thistles(0, 10), -1);
        CHECK.due("too few", x.thistles(0, -1), -1);
        CHECK.due("refused ones are not undone", x.count(10), 2);
    }

    private static void gate() {
        RoadsByCows x = Check.made("0+/+0", "a10");
        CHECK.due("opened", x.gate(1, 1), 0);
        CHECK.due("open ones", x.count(3), 2);
        CHECK.due("it is the second told", Check.cell(x, 8, 3), 3);
        CHECK.due("the first is shut", Check.cell(x, 1, 3), 2);
        CHECK.due("opened again", x.gate(1, 1), 1);
        CHECK.due("the other", x.gate(0, 1), 0);
        CHECK.due("open ones", x.count(3), 3);
        CHECK.due("shut", x.gate(1, 0), 1);
        CHECK.due("shut again", x.gate(1, 0), 0);
        CHECK.due("open ones", x.count(3), 1);
        CHECK.due("what can be undone", x.count(10), 5);
        CHECK.due("no GATE", x.gate(2, 1), -1);
        CHECK.due("no GATE", x.gate(-1, 1), -1);
        CHECK.due("no GATE", x.gate(Integer.MAX_VALUE, 1), -1);
        CHECK.due("neither", x.gate(0, 2), -1);
        CHECK.due("neither", x.gate(0, -1), -1);
        CHECK.due("refused ones are not undone", x.count(10), 5);
    }

    private static void gateWithHerd() {
        RoadsByCows x = Check.made("0+0", "a10");
        x.gate(0, 1);
        x.drive(0, 1);
        CHECK.due("shut with a herd in it", x.gate(0, 0), -2);
        CHECK.due("opened with a herd in it", x.gate(0, 1), -2);
        CHECK.due("it is open", x.count(3), 1);
        x.drive(0, 2);
        CHECK.due("shut behind it", x.gate(0, 0), 1);
        CHECK.due("it can't go back", x.drive(0, 1), -2);
    }

    private static void drive() {
        RoadsByCows x = Check.made("000/0+#/000", "a20;c30");
        CHECK.due("north", x.drive(0, 0), 8);
        CHECK.due("where it is", Check.herd(x, 0, 0), 0);
        CHECK.due("it does not lie", Check.herd(x, 0, 3), 0);
        CHECK.due("the other lies", Check.herd(x, 1, 3), 1);
        CHECK.due("trodden", Check.cell(x, 0, 4), 0);
        CHECK.due("by it", Check.cell(x, 0, 5), 0);
        CHECK.due("at once", x.count(6), 0);
        CHECK.due("east", x.drive(0, 1), 0);
        CHECK.due("a GATE that is shut", x.drive(0, 9), -2);
        CHECK.due("its own cell", x.drive(0, 1), -2);
        CHECK.due("too far", x.drive(0, 8), -2);
        CHECK.due("no cell", x.drive(0, 3), -1);
        CHECK.due("no cell", x.drive(0, -7), -1);
        CHECK.due("no herd", x.drive(2, 1), -1);
        CHECK.due("no herd", x.drive(-1, 1), -1);
        CHECK.due("no herd, no cell", x.drive(9, 99), -1);
        x.gate(0, 1);
        CHECK.due("south, into a GATE that is open", x.drive(0, 9), 1);
        CHECK.due("a FENCE", x.drive(0, 10), -2);
        CHECK.due("west", x.drive(0, 8), 9);
        CHECK.due("a FENCE", x.drive(1, 10), -2);
        CHECK.due("what can be undone", x.count(10), 5);
        x.set(0, 99);
        Check.rule(x, "0");
        x.hours(5);
        x.drive(1, 17);
        CHECK.due("trodden in HOUR NOW", Check.cell(x, 17, 4), 5);
        CHECK.due("by it", Check.cell(x, 17, 5), 1);
        CHECK.due("GRASS is not eaten by dogs", Check.cell(x, 17, 0), 0);
        RoadsByCows y = Check.made("00000000/00000000", "h10");
        CHECK.due("rows do not run on", y.drive(0, 8), -2);
        RoadsByCows z = Check.made("99", "a10");
        z.salt(1, 3);
        z.drive(0, 1);
        CHECK.due("nothing is eaten", Check.cell(z, 1, 0), 9);
        CHECK.due("nothing is eaten", Check.cell(z, 1, 1), 3);
    }

    private static void undo() {
        RoadsByCows x = Check.made("05+", "a10");
        x.salt(0, 1);
        x.thistles(1, 2);
        x.gate(0, 1);
        x.drive(0, 1);
        x.hour();
        x.hours(0);
        CHECK.due("hours(0) is none", x.count(10), 5);
        x.hours(3);
        Check.day(x, "h;h");
        CHECK.due("what can be undone", x.count(10), 7);
        CHECK.due("NOW", x.count(6), 6);
        CHECK.due("the day", x.undo(), 6);
        CHECK.due("NOW", x.count(6), 4);
        CHECK.due("hours", x.undo(), 5);
        CHECK.due("NOW", x.count(6), 1);
        CHECK.due("the hour", x.undo(), 4);
        CHECK.due("NOW", x.count(6), 0);
        CHECK.due("GRASS", Check.cell(x, 1, 0), 5);
        CHECK.due("where it is", Check.herd(x, 0, 0), 1);
        CHECK.due("it does not lie", Check.herd(x, 0, 3), 0);
        CHECK.due("the dogs", x.undo(), 3);
        CHECK.due("where it is", Check.herd(x, 0, 0), 0);
        CHECK.due("it lies", Check.herd(x, 0, 3), 1);
        CHECK.due("the GATE is open", x.count(3), 1);
        CHECK.due("not trodden", Check.cell(x, 1, 4), -1);
        CHECK.due("by none", Check.cell(x, 1, 5), -1);
        CHECK.due("the GATE", x.undo(), 2);
        CHECK.due("it is shut", x.count(3), 0);
        CHECK.due("THISTLES are there", Check.cell(x, 1, 2), 2);
        CHECK.due("the thistles", x.undo(), 1);
        CHECK.due("none", Check.cell(x, 1, 2), 0);
        CHECK.due("SALT is there", Check.cell(x, 0, 1), 1);
        CHECK.due("the salt", x.undo(), 0);
        CHECK.due("none", Check.cell(x, 0, 1), 0);
        CHECK.due("no more", x.undo(), -1);
        CHECK.due("no more", x.count(10), 0);
    }

    private static void undoKeepsTen() {
        RoadsByCows x = Check.made("0", "");
        for (int i = 1; i <= 9; i++) {
            x.salt(0, i);
        }
        for (int i = 1; i <= 4; i++) {
            x.thistles(0, i);
        }
        CHECK.due("ten are kept", x.count(10), 10);
        for (int left = 9; left >= 0; left--) {
            CHECK.due("undo()", x.undo(), left);
        }
        CHECK.due("SALT of the third act", Check.cell(x, 0, 1), 3);
        CHECK.due("no THISTLES", Check.cell(x, 0, 2), 0);
        CHECK.due("no more", x.undo(), -1);
        x.salt(0, 7);
        CHECK.due("one more", x.undo(), 0);
        CHECK.due("SALT", Check.cell(x, 0, 1), 3);
    }

    private static void undoneAreHerdsToo() {
        RoadsByCows x = Check.made("00", "a15");
        x.salt(0, 1);
        x.sheet(2, 1, 8, 0);
        x.set(0, 33);
        x.undo();
        CHECK.due("GREED is as ahead of it", Check.herd(x, 0, 1), 5);
        CHECK.due("KEEPS is not of it", x.count(7), 33);
        x.hour();
        long row = Check.row(x, 0);
        x.undo();
        CHECK.due("nor is the ROW", Check.row(x, 0), row);
    }
}
