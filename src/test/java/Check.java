import java.util.NoSuchElementException;

/** What the tests share: a count of wrong answers, and short ways to tell texts and read rows. */
final class Check {
    /** Stands for an answer: the call threw NoSuchElementException. */
    static final long THROWN = Long.MIN_VALUE;

    private int wrong;
    private int asked;

    void due(String what, long got, long want) {
        asked++;
        if (got != want) {
            wrong++;
            System.out.println(what + " answered " + shown(got) + ", due is " + shown(want));
        }
    }

    void due(String what, boolean got, boolean want) {
        due(what, got ? 1 : 0, want ? 1 : 0);
    }

    /** The ROW has just these numbers, and none behind them. */
    void dueRow(String what, RoadsByCows x, long... want) {
        due(what + ": numbers of the ROW", x.count(11), want.length);
        for (int i = 0; i < want.length; i++) {
            due(what + ": row(" + i + ")", row(x, i), want[i]);
        }
        due(what + ": row(" + want.length + ")", row(x, want.length), THROWN);
        due(what + ": row(-1)", row(x, -1), THROWN);
    }

    void close(String name) {
        System.out.println(name + ": " + asked + " answers, " + wrong + " wrong");
        if (wrong != 0 || asked == 0) {
            System.exit(1);
        }
    }

    private static String shown(long answer) {
        return answer == THROWN ? "throws.NoSuchElementException" : Long.toString(answer);
    }

    static long row(RoadsByCows x, int i) {
        try {
            return x.row(i);
        } catch (NoSuchElementException e) {
            return THROWN;
        }
    }

    static long cell(RoadsByCows x, int cell, int what) {
        try {
            return x.cell(cell, what);
        } catch (NoSuchElementException e) {
            return THROWN;
        }
    }

    static long herd(RoadsByCows x, int herd, int what) {
        try {
            return x.herd(herd, what);
        } catch (NoSuchElementException e) {
            return THROWN;
        }
    }

    /** THE TEXT becomes these signs. */
    static void tell(RoadsByCows x, String words) {
        x.end(0);
        for (int i = 0; i < words.length(); i += 4) {
            int v = 0;
            for (int k = i; k < i + 4; k++) {
                v = v << 8 | (k < words.length() ? words.charAt(k) & 255 : 0);
            }
            x.sign(v);
        }
        x.end(words.length());
    }

    static int meadow(RoadsByCows x, String words) {
        tell(x, words);
        return x.meadow();
    }

    static int herds(RoadsByCows x, String words) {
        tell(x, words);
        return x.herds();
    }

    static int rule(RoadsByCows x, String words) {
        tell(x, words);
        return x.rule();
    }

    static int day(RoadsByCows x, String words) {
        tell(x, words);
        return x.day();
    }

    static int bride(RoadsByCows x, String words) {
        tell(x, words);
        return x.bride();
    }

    /** A new object with a meadow and herds. */
    static RoadsByCows made(String meadow, String herds) {
        RoadsByCows x = new RoadsByCows();
        meadow(x, meadow);
        if (herds(x, herds) < 0) {
            throw new IllegalArgumentException("a test tells herds that can't be: " + herds);
        }
        return x;
    }

    /** Cells as bits. */
    static long bits(int... cells) {
        long all = 0;
        for (int cell : cells) {
            all |= 1L << cell;
        }
        return all;
    }
}
