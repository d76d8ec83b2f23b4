/**
 * Two objects that were told the same: one is asked a call that must change nothing, and then both
 * are asked all that can be asked, and must answer alike.
 */
final class Twins {
    /** A call on an object: what it answered (a boolean counts 1 or 0; Check.THROWN). */
    interface Call {
        long on(RoadsByCows x);
    }

    /** THE TEXT of a scene: a meadow of two cells. */
    private static final String LEFT = "47";

    private final Check check;

    Twins(Check check) {
        this.check = check;
    }

    /** A refused call that reads no text: all is as it was, THE TEXT and the ROW too. */
    void refuses(String what, Call call, long want) {
        RoadsByCows x = scene();
        check.due(what, call.on(x), want);
        same(what, told(x, true), told(scene(), true));
    }

    /** A refused call that reads the text that it is told: all is as it was, but THE TEXT is empty. */
    void refusesText(String what, Call call, long want) {
        RoadsByCows x = scene();
        check.due(what, call.on(x), want);
        check.due(what + ": THE TEXT is empty", x.count(12), 0);
        Check.tell(x, LEFT);
        same(what, told(x, true), told(scene(), true));
    }

    /** A question: all but the ROW is as it was. */
    void asks(String what, Call call) {
        RoadsByCows x = scene();
        call.on(x);
        same(what, told(x, false), told(scene(), false));
    }

    /** A question that reads the text that it is told: all but the ROW and THE TEXT is as it was. */
    void asksText(String what, Call call) {
        RoadsByCows x = scene();
        call.on(x);
        Check.tell(x, LEFT);
        same(what, told(x, false), told(scene(), false));
    }

    private void same(String what, String got, String want) {
        int i = 0;
        while (i < got.length() && i < want.length() && got.charAt(i) == want.charAt(i)) {
            i++;
        }
        boolean alike = got.equals(want);
        check.due(alike ? what : what + " changed something, from here on: " + got.substring(i, Math.min(got.length(), i + 60)), alike, true);
    }

    /**
     * Something of everything: a1 1, b1 2, c1 a GATE (0), a2 3, b2 a FENCE, c2 8, d1 5 and d2 a GATE
     * (1, open); two herds, a rule, two kept, four that can be undone, snow, a ROW, a TEXT.
     */
    static RoadsByCows scene() {
        RoadsByCows x = Check.made("12+5/3#8+", "a15;c24*");
        Check.rule(x, "g+s*2-t+m*3-r*2+e/5-o");
        x.set(0, 5);
        x.set(1, 4);
        x.keep(0);
        x.salt(0, 6);
        x.sheet(2, 2, 3, 4);
        x.hours(3);
        x.keep(1);
        x.snow();
        x.thistles(1, 2);
        x.gate(1, 1);
        x.hours(2);
        x.undo();
        x.road();
        Check.tell(x, LEFT);
        return x;
    }

    /** All that an object tells, and then what comes of it: HOURS to come, undone, again, read. */
    private static String told(RoadsByCows x, boolean withRow) {
        StringBuilder all = new StringBuilder();
        if (withRow) {
            row(all, x);
        }
        all.append(" count");
        for (int what : new int[] {0, 1, 2, 7, 8, 10, 12}) {
            all.append(' ').append(x.count(what));
        }
        state(all, x);
        all.append(" turns ").append(Check.herd(x, 0, 4)).append(' ').append(Check.herd(x, 1, 4));
        all.append(" thaw ").append(x.thaw());
        row(all, x);
        all.append(" roadin ").append(x.roadin(9));
        row(all, x);
        for (int left = x.count(10); left > 0; left--) {
            all.append(" undone ").append(x.undo());
            state(all, x);
        }
        all.append(" undone ").append(x.undo());
        for (int i = 0; i < 2; i++) {
            all.append(" again ").append(x.again(i));
            state(all, x);
        }
        all.append(" meadow ").append(x.meadow()).append(' ').append(Check.cell(x, 0, 0)).append(Check.cell(x, 1, 0));
        return all.toString();
    }

    private static void row(StringBuilder all, RoadsByCows x) {
        all.append(" ROW");
        int n = x.count(11);
        for (int i = 0; i < n; i++) {
            all.append(' ').append(Check.row(x, i));
        }
    }

    /** Cells, GATES, herds, NOW; no more calls than an object may be asked in all (512). */
    private static void state(StringBuilder all, RoadsByCows x) {
        for (int cell : new int[] {0, 1, 2, 3, 8, 10, 11}) {
            all.append(" cell ").append(cell);
            for (int what : new int[] {0, 1, 2, 4, 5}) {
                all.append(' ').append(Check.cell(x, cell, what));
            }
        }
        for (int herd = 0; herd < 2; herd++) {
            all.append(" herd ").append(herd);
            for (int what = 0; what < 4; what++) {
                all.append(' ').append(Check.herd(x, herd, what));
            }
        }
        all.append(" gates ").append(x.count(3)).append(" herds ").append(x.count(4)).append(" now ").append(x.count(6));
    }
}
