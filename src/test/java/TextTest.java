/** Promises 1, 2, 3: a new object, and THE TEXT. */
public final class TextTest {
    private static final Check CHECK = new Check();

    public static void main(String[] args) {
        newObject();
        signs();
        ends();
        readersEmptyIt();
        CHECK.close("TextTest");
    }

    private static void newObject() {
        RoadsByCows x = new RoadsByCows();
        int[] due = {0, 0, 0, 0, 0, 0, 0, 12, 6, 0, 0, 0, 0};
        for (int what = 0; what < due.length; what++) {
            CHECK.due("new: count(" + what + ")", x.count(what), due[what]);
        }
        CHECK.due("new: cell(0, 0)", Check.cell(x, 0, 0), Check.THROWN);
        CHECK.due("new: herd(0, 0)", Check.herd(x, 0, 0), Check.THROWN);
        CHECK.dueRow("new", x);
        CHECK.due("new: undo()", x.undo(), -1);
        CHECK.due("new: again(0)", x.again(0), false);
    }

    private static void signs() {
        RoadsByCows x = new RoadsByCows();
        for (int n = 4; n <= 80; n += 4) {
            CHECK.due("sign() number " + n / 4, x.sign(0x31323334), n);
        }
        CHECK.due("an 81st sign", x.sign(0x31323334), -1);
        CHECK.due("count(12) behind it", x.count(12), 80);
        CHECK.due("end(77)", x.end(77), true);
        CHECK.due("81 signs", x.sign(0), -1);
        CHECK.due("end(76)", x.end(76), true);
        CHECK.due("80 signs", x.sign(-1), 80);

        // The highest byte comes first: 1#+2 are four cells in this turn.
        x.end(0);
        x.sign('1' << 24 | '#' << 16 | '+' << 8 | '2');
        CHECK.due("meadow()", x.meadow(), 4);
        CHECK.due("cell 0", Check.cell(x, 0, 0), 1);
        CHECK.due("cell 1", Check.cell(x, 1, 3), 1);
        CHECK.due("cell 2", Check.cell(x, 2, 3), 2);
        CHECK.due("cell 3", Check.cell(x, 3, 0), 2);

        // Bytes from 128 on are signs without a sign of their own.
        x.sign(0xFFFFFFFF);
        CHECK.due("a text of signs 255", x.meadow(), -1);
    }

    private static void ends() {
        RoadsByCows x = new RoadsByCows();
        CHECK.due("end(0) of an empty one", x.end(0), true);
        CHECK.due("end(1) of an empty one", x.end(1), false);
        CHECK.due("end(-1)", x.end(-1), false);
        x.sign(0x31323334);
        CHECK.due("end(5) of four", x.end(5), false);
        CHECK.due("end(-1) of four", x.end(-1), false);
        CHECK.due("end(most)", x.end(Integer.MAX_VALUE), false);
        CHECK.due("end(least)", x.end(Integer.MIN_VALUE), false);
        CHECK.due("none of them changed it", x.count(12), 4);
        CHECK.due("end(4)", x.end(4), true);
        CHECK.due("end(2)", x.end(2), true);
        CHECK.due("two are left", x.count(12), 2);
        CHECK.due("what was cut is gone", x.end(3), false);
        CHECK.due("and they are the first", x.meadow(), 2);
        CHECK.due("cell 1", Check.cell(x, 1, 0), 2);
    }

    private static void readersEmptyIt() {
        RoadsByCows x = new RoadsByCows();
        Check.tell(x, "zz");
        CHECK.due("meadow()", x.meadow(), -1);
        CHECK.due("emptied by a refused meadow()", x.count(12), 0);
        Check.tell(x, "12");
        CHECK.due("meadow()", x.meadow(), 2);
        CHECK.due("emptied by meadow()", x.count(12), 0);
        Check.tell(x, "zz");
        CHECK.due("herds()", x.herds(), -1);
        CHECK.due("emptied by a refused herds()", x.count(12), 0);
        Check.tell(x, "a15");
        CHECK.due("herds()", x.herds(), 1);
        CHECK.due("emptied by herds()", x.count(12), 0);
        Check.tell(x, "zz");
        CHECK.due("rule()", x.rule(), -1);
        CHECK.due("emptied by a refused rule()", x.count(12), 0);
        Check.tell(x, "g");
        CHECK.due("rule()", x.rule(), 0);
        CHECK.due("emptied by rule()", x.count(12), 0);
        CHECK.due("an empty rule()", x.rule(), 0);
        CHECK.due("and leaves it empty", x.count(12), 0);
        Check.tell(x, "zz");
        CHECK.due("day()", x.day(), -1);
        CHECK.due("emptied by a refused day()", x.count(12), 0);
        Check.tell(x, "h");
        CHECK.due("day()", x.day(), 1);
        CHECK.due("emptied by day()", x.count(12), 0);
        Check.tell(x, "zz");
        CHECK.due("bride()", x.bride(), -1);
        CHECK.due("emptied by a refused bride()", x.count(12), 0);
        Check.tell(x, "a1");
        CHECK.due("bride()", x.bride(), 0);
        CHECK.due("emptied by bride()", x.count(12), 0);
        Check.tell(x, "12");
        x.hour();
        CHECK.due("left alone by others", x.count(12), 2);
    }
}
