/** Promises 39 to 45: snow, thaw, season, keep, again, count, row. */
public final class WinterTest {
    private static final Check CHECK = new Check();

    public static void main(String[] args) {
        snow();
        season();
        seasonOnOtherGround();
        keepAndAgain();
        count();
        row();
        CHECK.close("WinterTest");
    }

    private static void snow() {
        RoadsByCows x = Check.made("0000", "a10");
        Check.rule(x, "m");
        x.set(0, 1);
        CHECK.due("it did not snow", x.thaw(), -2);
        CHECK.due("snow", x.snow(), 1);
        CHECK.due("thaw at once", x.thaw(), 0);
        CHECK.dueRow("thaw at once", x, 0, 0);
        x.hours(3);
        CHECK.due("a1 is gone", x.thaw(), 1);
        CHECK.dueRow("a1 is gone", x, Check.bits(0), Check.bits(2, 3));
        CHECK.due("it can be asked again", x.thaw(), 1);
        x.undo();
        CHECK.due("the snow is not undone", x.thaw(), 0);
        x.hours(3);
        CHECK.due("snow again", x.snow(), 2);
        CHECK.due("as it is now", x.thaw(), 0);
        x.set(0, 0);
        CHECK.due("KEEPS tells", x.thaw(), 1);
        CHECK.dueRow("KEEPS tells", x, Check.bits(2), 0);
        CHECK.due("it is none that can be undone", x.count(10), 1);
        RoadsByCows y = new RoadsByCows();
        CHECK.due("no cells", y.snow(), 0);
        CHECK.due("no cells", y.thaw(), 0);
        Check.meadow(y, "0");
        CHECK.due("another meadow", y.thaw(), -2);
    }

    private static void season() {
        // R behind seed 1, by 65536: 16838, 5758, 10113, 17515, 31051, 5627 (some and 32768): of two cells 0 0 1 1 1 1.
        RoadsByCows x = Check.made("00", "a10");
        Check.rule(x, "m-t*9");
        CHECK.due("one HOUR", x.season(1, 1), 1);
        CHECK.dueRow("one HOUR", x, 1);
        CHECK.due("two", x.season(1, 2), 1);
        CHECK.dueRow("two", x, 1);
        CHECK.due("three", x.season(1, 3), 2);
        CHECK.dueRow("three", x, 0);
        CHECK.due("six", x.season(1, 6), 2);
        CHECK.dueRow("six", x, 0);
        CHECK.due("it only looks on", x.count(6), 0);
        CHECK.due("it only looks on", Check.herd(x, 0, 0), 0);
        CHECK.due("it is none that can be undone", x.count(10), 0);
        CHECK.due("none", x.season(1, 0), -1);
        CHECK.due("too many", x.season(1, 61), -1);
        CHECK.due("too few", x.season(1, Integer.MIN_VALUE), -1);
        CHECK.due("no cells", new RoadsByCows().season(1, 1), -1);
        CHECK.dueRow("they leave the ROW", x, 0);
        CHECK.due("no herds", Check.made("00", "").season(1, 9), 0);
    }

    private static void seasonOnOtherGround() {
        // R behind seed 2 is 2207042835, without sign: by 65536 33676, of three the one told second.
        RoadsByCows x = Check.made("000", "a10");
        Check.rule(x, "m-t*9");
        CHECK.due("R without sign", x.season(2, 1), 0);
        CHECK.dueRow("R without sign", x, 0);
        RoadsByCows y = Check.made("0/0/0", "a10");
        Check.rule(y, "m-t*9");
        CHECK.due("as they are told", y.season(2, 1), 0);
        CHECK.due("another seed", y.season(1, 1), 1);
        CHECK.dueRow("another seed", y, 8);
        RoadsByCows z = Check.made("#0", "b10");
        Check.rule(z, "m-t*9");
        CHECK.due("a FENCE", z.season(1, 5), 0);
        // A GATE that is told second: flies in it are none, so a herd goes in.
        RoadsByCows w = Check.made("0+0", "a10");
        Check.rule(w, "m-t*9");
        w.gate(0, 1);
        CHECK.due("a GATE", w.season(2, 1), 1);
        CHECK.dueRow("a GATE", w, 1);
        // Seed 0 draws the first and then the third of three, which is a FENCE: the thistles that
        // were on a1 tell in HOUR 2, no more and no less.
        RoadsByCows u = Check.made("00#", "a10");
        Check.rule(u, "m*2-t");
        u.thistles(0, 1);
        CHECK.due("thistles are as they were behind it: few", u.season(0, 2), 2);
        CHECK.dueRow("few", u, 0);
        u.thistles(0, 3);
        CHECK.due("thistles are as they were behind it: more", u.season(0, 2), 1);
        CHECK.dueRow("more", u, 1);
        CHECK.due("thistles are as they were", Check.cell(u, 0, 2), 3);
        RoadsByCows v = Check.made("0", "a10;a10");
        CHECK.due("seed 0", v.season(0, 60), 0);
        CHECK.dueRow("seed 0", v, 0, 0);
        CHECK.due("least seed", v.season(Integer.MIN_VALUE, 60), 0);
    }

    private static void keepAndAgain() {
        RoadsByCows x = Check.made("12+", "a15;b16*");
        x.salt(0, 3);
        x.thistles(1, 4);
        x.gate(0, 1);
        CHECK.due("nothing kept", x.again(0), false);
        CHECK.due("keep(0)", x.keep(0), true);
        x.salt(0, 5);
        x.hours(7);
        x.sheet(2, 2, 9, 0);
        x.set(0, 77);
        x.gate(0, 0);
        CHECK.due("keep(1)", x.keep(1), true);
        CHECK.due("keep(2)", x.keep(2), false);
        CHECK.due("keep(-1)", x.keep(-1), false);
        CHECK.due("again(2)", x.again(2), false);
        CHECK.due("again(-1)", x.again(-1), false);
        x.hours(2);
        CHECK.due("again(0)", x.again(0), true);
        CHECK.due("SALT", Check.cell(x, 0, 1), 3);
        CHECK.due("THISTLES", Check.cell(x, 1, 2), 4);
        CHECK.due("GRASS", x.count(9), 3);
        CHECK.due("GATES", x.count(3), 1);
        CHECK.due("NOW", x.count(6), 0);
        CHECK.due("where", Check.herd(x, 0, 0), 0);
        CHECK.due("they lie", x.count(5), 3);
        CHECK.due("GREED", Check.herd(x, 1, 1), 6);
        CHECK.due("KEEPS is not of it", x.count(7), 77);
        CHECK.due("nothing can be undone", x.undo(), -1);
        x.hour();
        CHECK.due("again(1)", x.again(1), true);
        CHECK.due("NOW", x.count(6), 7);
        CHECK.due("again(0), once more", x.again(0), true);
        CHECK.due("NOW", x.count(6), 0);
        x.hour();
        CHECK.due("a refused again() forgets nothing", x.again(5), false);
        CHECK.due("one can be undone", x.undo(), 0);
        CHECK.due("kept anew", x.keep(1), true);
        x.hour();
        CHECK.due("again(1)", x.again(1), true);
        CHECK.due("NOW", x.count(6), 0);
        Check.herds(x, "a11");
        CHECK.due("herds came since", x.again(0), false);
        CHECK.due("herds came since", x.again(1), false);
    }

    private static void count() {
        RoadsByCows x = Check.made("19+/4#+/+55", "a15;b16*");
        x.gate(1, 1);
        x.gate(2, 1);
        Check.rule(x, "m*(i=0)");
        x.hour();
        Check.tell(x, "abc");
        int[] due = {3, 3, 3, 6, 2, 2, 1, 12, 6, 1 + 9 + 4 + 5 + 5 - 2, 3, 2, 3};
        for (int what = 0; what < due.length; what++) {
            CHECK.due("count(" + what + ")", x.count(what), due[what]);
        }
        for (int what : new int[] {-1, 13, 64, Integer.MAX_VALUE, Integer.MIN_VALUE}) {
            CHECK.due("count(" + what + ")", x.count(what), -1);
        }
    }

    private static void row() {
        RoadsByCows x = Check.made("000", "a10;b10;c10");
        CHECK.due("none yet", Check.row(x, 0), Check.THROWN);
        Check.rule(x, "0");
        x.hour();
        CHECK.dueRow("told", x, 0, 1, 2);
        CHECK.due("far off", Check.row(x, Integer.MAX_VALUE), Check.THROWN);
        CHECK.due("far off", Check.row(x, Integer.MIN_VALUE), Check.THROWN);
        x.salt(0, 1);
        x.keep(0);
        x.snow();
        x.undo();
        x.again(0);
        x.hours(99);
        CHECK.dueRow("calls that tell none leave it", x, 0, 1, 2);
        x.squares();
        CHECK.dueRow("the last one", x, 0);
    }
}
