import java.lang.management.ManagementFactory;

/**
 * LANGUAGE.md, rule 12, and the room in which all calls of a run live: an object is small, and its
 * calls make nothing, the dearest ones too.
 */
public final class RoomTest {
    private static final Check CHECK = new Check();
    private static final com.sun.management.ThreadMXBean THREADS =
            (com.sun.management.ThreadMXBean) ManagementFactory.getThreadMXBean();

    public static void main(String[] args) {
        calls(new RoadsByCows());
        long made = bytes();
        RoadsByCows x = new RoadsByCows();
        made = bytes() - made;
        CHECK.due("an object takes no more than 40000 bytes", made <= 40000, true);
        long ahead = bytes();
        int done = calls(x);
        long spent = bytes() - ahead;
        CHECK.due(done + " calls make nothing", spent <= 2000, true);
        CHECK.close("RoomTest");
    }

    private static long bytes() {
        return THREADS.getThreadAllocatedBytes(Thread.currentThread().getId());
    }

    private static int calls(RoadsByCows x) {
        int done = 0;
        for (int i = 0; i < 8; i++) {
            Check.meadow(x, "99999999/999+9999");
            Check.herds(x, "a15;b15*;c10");
            Check.rule(x, "m*9-t+g-r*99");
            x.hours(60);
            Check.day(x, "h;h9;sa13");
            Check.bride(x, "a1b1");
            done += 30 + asked(x);
        }
        return done;
    }

    private static int asked(RoadsByCows x) {
        x.salt(0, 3);
        x.thistles(1, 3);
        x.gate(0, 1);
        x.drive(0, 1);
        x.hour();
        x.undo();
        x.road();
        x.squares();
        x.cart(0, 1);
        x.joined(0);
        x.owners();
        x.least();
        x.furthest(0);
        x.where(0, 100);
        x.roadin(100);
        x.market(1, 100);
        x.trodden(9);
        x.meets();
        x.round(0);
        x.lure(9, 100);
        x.hedge(1, 100);
        x.gates(0, 1, 100);
        x.ways(0, 1, 20);
        x.lost(0, 1, 40);
        x.letter(1);
        x.snow();
        x.thaw();
        x.season(5, 60);
        x.keep(0);
        x.again(0);
        x.count(9);
        x.cell(0, 3);
        x.herd(0, 4);
        x.set(0, 10);
        x.sheet(2, 2, 1, 1);
        return 35;
    }
}
