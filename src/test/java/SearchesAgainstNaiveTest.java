import java.util.Random;

/**
 * lure, hedge and gates, which the class cuts short, against the naive one, which tries all: on open
 * meadows with lively herds, drawn by fixed seeds, where one or two cells often do tell.
 */
public final class SearchesAgainstNaiveTest {
    private static final Check CHECK = new Check();
    private static final String[] RULES = {
        "", "g*2+s*5-t*3-r", "m-t+g*3+s*2", "m*2-t+g*20+s", "g-r*9-o*3+m-t*4+s*3", "m*3-t/3-o*2+s/3",
        "g*e-t*i+s*4-m*2", "(k/3-k/6*2)*g-t*2+s-o", "m*9-r*9", "(t<5)*m+s*(g=0)", "(s>4)*9+m-t*r", "t-s+g",
    };

    private SearchesAgainstNaiveTest() {
    }

    public static void main(String[] args) {
        int from = args.length > 0 ? Integer.parseInt(args[0]) : 0;
        int runs = args.length > 1 ? Integer.parseInt(args[1]) : 250;
        int[] hedged = new int[3];
        for (int seed = from; seed < from + runs; seed++) {
            run(new Random(seed), seed, hedged);
        }
        CHECK.due("some are hedged by one", hedged[1] > 10, true);
        CHECK.due("some are hedged by two", hedged[2] > 2, true);
        CHECK.close("SearchesAgainstNaiveTest");
    }

    private static void run(Random random, int seed, int[] hedged) {
        RoadsByCows x = new RoadsByCows();
        Naive y = new Naive();
        int columns = 2 + random.nextInt(5);
        int rows = 1 + random.nextInt(5);
        tell(x, y, meadow(random, columns, rows));
        same(seed + ": meadow()", x.meadow(), y.meadow());
        for (int i = 0; i < 1 + random.nextInt(3); i++) {
            tell(x, y, "" + (char) ('a' + random.nextInt(columns)) + (1 + random.nextInt(rows)) + random.nextInt(10)
                    + (random.nextInt(4) == 0 ? "*" : ""));
            same(seed + ": herds()", x.herds(), y.herds());
        }
        tell(x, y, RULES[random.nextInt(RULES.length)]);
        same(seed + ": rule()", x.rule(), y.rule());
        int grows = 1 + random.nextInt(12);
        same(seed + ": set()", x.set(1, grows), y.set(1, grows));
        for (int i = 0; i < 8; i++) {
            int cell = 8 * random.nextInt(rows) + random.nextInt(columns);
            int n = 1 + random.nextInt(random.nextInt(3) == 0 ? 40 : 6);
            int herd = random.nextInt(2);
            String call = seed + ", " + i + ": of " + cell + ", " + n + " ";
            int cells = x.hedge(cell, n);
            same(call + "hedge", cells, y.hedge(cell, n));
            sameRow(call + "hedge", x, y);
            hedged[Math.max(0, cells)]++;
            same(call + "lure", x.lure(cell, n), y.lure(cell, n));
            sameRow(call + "lure", x, y);
            same(call + "gates", x.gates(herd, cell, n), y.gates(herd, cell, n));
            sameRow(call + "gates", x, y);
            int v = random.nextInt(10);
            same(call + "salt", x.salt(cell, v), y.salt(cell, v));
            int other = 8 * random.nextInt(rows) + random.nextInt(columns);
            same(call + "thistles", x.thistles(other, v), y.thistles(other, v));
            same(call + "gate", x.gate(i % 3, v % 2), y.gate(i % 3, v % 2));
            same(call + "hour", x.hour(), y.hour());
        }
    }

    private static String meadow(Random random, int columns, int rows) {
        StringBuilder words = new StringBuilder();
        int gates = 0;
        for (int r = 0; r < rows; r++) {
            words.append(r == 0 ? "" : "/");
            for (int c = 0; c < columns; c++) {
                int kind = random.nextInt(12);
                boolean isGate = kind == 1 && gates < 6;
                gates += isGate ? 1 : 0;
                words.append(kind == 0 ? '#' : isGate ? '+' : (char) ('0' + random.nextInt(random.nextBoolean() ? 10 : 3)));
            }
        }
        return words.toString();
    }

    private static void tell(RoadsByCows x, Naive y, String words) {
        Check.tell(x, words);
        for (int i = 0; i < words.length(); i += 4) {
            int v = 0;
            for (int k = i; k < i + 4; k++) {
                v = v << 8 | (k < words.length() ? words.charAt(k) & 255 : 0);
            }
            y.sign(v);
        }
        y.end(words.length());
    }

    private static void same(String call, long got, long want) {
        CHECK.due(call, got, want);
    }

    private static void sameRow(String call, RoadsByCows x, Naive y) {
        CHECK.due(call + ": numbers of the ROW", x.count(11), y.count(11));
        for (int i = 0; i < y.count(11); i++) {
            CHECK.due(call + ": row(" + i + ")", Check.row(x, i), y.row(i));
        }
    }
}
