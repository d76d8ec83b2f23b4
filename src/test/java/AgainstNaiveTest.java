import java.util.NoSuchElementException;
import java.util.Random;

/**
 * Runs of calls, drawn by fixed seeds, on the class and on the naive one: each answer, the ROW
 * behind it, and now and then all that cells, herds and counts tell must be the same.
 */
public final class AgainstNaiveTest {
    private static final Check CHECK = new Check();
    private static final long THROWN = Check.THROWN;
    private static final String LETTERS = "gstrmoeik";

    private final Random random;
    private final RoadsByCows x = new RoadsByCows();
    private final Naive y = new Naive();
    private final StringBuilder run = new StringBuilder();
    private int columns = 4;
    private int rows = 4;
    private int differences;

    private AgainstNaiveTest(long seed) {
        random = new Random(seed);
        run.append("seed ").append(seed).append(':');
    }

    public static void main(String[] args) {
        int from = args.length > 0 ? Integer.parseInt(args[0]) : 0;
        int runs = args.length > 1 ? Integer.parseInt(args[1]) : 400;
        for (int i = from; i < from + runs; i++) {
            new AgainstNaiveTest(i).go();
        }
        CHECK.close("AgainstNaiveTest");
    }

    private void go() {
        if (random.nextInt(10) > 0) {
            newMeadow();
        }
        for (int i = 0; i < 120 && differences == 0; i++) {
            call();
            if (random.nextInt(12) == 0) {
                compareAll();
            }
        }
        if (differences == 0) {
            compareAll();
        }
    }

    private void both(String call, long got, long want) {
        run.append(' ').append(call);
        if (got != want) {
            differences++;
        }
        CHECK.due(got == want ? call : run.toString(), got, want);
        compareRow();
    }

    private void both(String call, boolean got, boolean want) {
        both(call, got ? 1 : 0, want ? 1 : 0);
    }

    private void compareRow() {
        int n = y.count(11);
        same("count(11)", x.count(11), n);
        for (int i = 0; i < n; i++) {
            same("row(" + i + ")", Check.row(x, i), y.row(i));
        }
    }

    private void same(String what, long got, long want) {
        if (got != want) {
            differences++;
            CHECK.due(run + " then " + what, got, want);
        }
    }

    private void compareAll() {
        for (int what = -1; what <= 13; what++) {
            same("count(" + what + ")", x.count(what), y.count(what));
        }
        for (int cell = -2; cell < 66; cell++) {
            for (int what = -1; what <= 8; what++) {
                same("cell(" + cell + ", " + what + ")", Check.cell(x, cell, what), naiveCell(cell, what));
            }
        }
        for (int herd = -1; herd < 7; herd++) {
            for (int what = -1; what <= 5; what++) {
                same("herd(" + herd + ", " + what + ")", Check.herd(x, herd, what), naiveHerd(herd, what));
            }
        }
    }

    private long naiveCell(int cell, int what) {
        try {
            return y.cell(cell, what);
        } catch (NoSuchElementException e) {
            return THROWN;
        }
    }

    private long naiveHerd(int herd, int what) {
        try {
            return y.herd(herd, what);
        } catch (NoSuchElementException e) {
            return THROWN;
        }
    }

    // ---- what is drawn

    private boolean rarely() {
        return random.nextInt(12) == 0;
    }

    private int wild() {
        int[] edges = {-1, -2, 64, 65, 100, 101, 1000, Integer.MIN_VALUE, Integer.MAX_VALUE, 7, 8, 63};
        return edges[random.nextInt(edges.length)];
    }

    private int upTo(int most) {
        return rarely() ? wild() : random.nextInt(most + 1);
    }

    private int aCell() {
        if (rarely()) {
            return rarely() ? wild() : random.nextInt(64);
        }
        return 8 * random.nextInt(rows) + random.nextInt(columns);
    }

    private int aHerd() {
        return rarely() ? wild() : random.nextInt(Math.max(1, y.count(4)) + (rarely() ? 1 : 0));
    }

    private int someHours() {
        return rarely() ? upTo(102) : random.nextInt(3) == 0 ? upTo(100) : upTo(20);
    }

    private void say(String words) {
        run.append(" '").append(words).append('\'');
        Check.tell(x, words);
        y.end(0);
        for (int i = 0; i < words.length(); i += 4) {
            int v = 0;
            for (int k = i; k < i + 4; k++) {
                v = v << 8 | (k < words.length() ? words.charAt(k) & 255 : 0);
            }
            y.sign(v);
        }
        y.end(words.length());
        same("count(12)", x.count(12), y.count(12));
    }

    /** Now and then a sign is put in, left out or changed, or the text is cut. */
    private String spoilt(String words, String signs) {
        if (random.nextInt(4) > 0 || words.length() > 76) {
            return words;
        }
        StringBuilder spoilt = new StringBuilder(words);
        int at = random.nextInt(words.length() + 1);
        char sign = rarely() ? (char) random.nextInt(256) : signs.charAt(random.nextInt(signs.length()));
        switch (random.nextInt(4)) {
            case 0:
                spoilt.insert(at, sign);
                break;
            case 1:
                if (at < words.length()) {
                    spoilt.setCharAt(at, sign);
                }
                break;
            case 2:
                if (at < words.length()) {
                    spoilt.deleteCharAt(at);
                }
                break;
            default:
                spoilt.setLength(at);
                break;
        }
        return spoilt.toString();
    }

    private void newMeadow() {
        columns = 1 + random.nextInt(random.nextInt(3) == 0 ? 8 : 5);
        rows = 1 + random.nextInt(random.nextInt(3) == 0 ? 8 : 5);
        int gates = 0;
        StringBuilder words = new StringBuilder();
        for (int r = 0; r < rows; r++) {
            words.append(r == 0 ? "" : "/");
            for (int c = 0; c < columns; c++) {
                int kind = random.nextInt(18);
                if (kind == 0) {
                    words.append('#');
                } else if (kind < 3 && (gates < 6 || rarely())) {
                    words.append('+');
                    gates++;
                } else {
                    words.append((char) ('0' + random.nextInt(10)));
                }
            }
        }
        say(spoilt(words.toString(), "/#+0123456789"));
        both("meadow()", x.meadow(), y.meadow());
        columns = Math.max(1, y.count(0));
        rows = Math.max(1, y.count(1));
        for (int i = 0; i < 3 && y.count(4) == 0 && !(rarely() && rarely()); i++) {
            say(herdsText());
            both("herds()", x.herds(), y.herds());
        }
    }

    private String herdsText() {
        StringBuilder words = new StringBuilder();
        int lines = random.nextInt(rarely() ? 8 : 5);
        for (int i = 0; i < lines; i++) {
            int cell = aPlainCell();
            words.append(i == 0 ? "" : ";");
            words.append((char) ('a' + cell % 8)).append((char) ('1' + cell / 8));
            words.append((char) ('0' + random.nextInt(10))).append(random.nextInt(3) == 0 ? "*" : "");
        }
        return spoilt(words.toString(), "abch1289*;05");
    }

    private int aPlainCell() {
        int cell = 0;
        for (int i = 0; i < (rarely() ? 1 : 12); i++) {
            cell = 8 * random.nextInt(rows) + random.nextInt(columns);
            if (naiveCell(cell, 3) == 0) {
                break;
            }
        }
        return cell;
    }

    private String ruleText() {
        switch (random.nextInt(9)) {
            case 0:
                return "";
            case 4:
                return "g-r*9-o*3+m-t*4+s*3";
            case 1:
                return "g*2+s*5-t*3-r-o*4";
            case 2:
                return "g*e-t*3+s*4-m*2";
            case 3:
                return "(k/3-k/6*2)*g-t*9+s*9-o";
            default:
                StringBuilder words = new StringBuilder();
                expression(words, 0, 6);
                int room = Math.min(words.length(), rarely() ? 80 : 40);
                return spoilt(words.substring(0, room), "gstrmoeik()-+*/<>=0129");
        }
    }

    private void expression(StringBuilder words, int depth, int budget) {
        int things = 1 + random.nextInt(Math.max(1, budget));
        boolean compared = false;
        for (int i = 0; i < things; i++) {
            if (i > 0) {
                boolean compares = !compared && random.nextInt(5) == 0 || rarely() && rarely();
                compared |= compares;
                words.append(compares ? "<>=".charAt(random.nextInt(3)) : "++--**/".charAt(random.nextInt(7)));
            }
            while (random.nextInt(6) == 0) {
                words.append('-');
            }
            int kind = random.nextInt(8);
            if (kind == 0 && depth < 5) {
                words.append('(');
                expression(words, depth + 1, budget / 2 + 1);
                words.append(')');
            } else if (kind < 3) {
                words.append(random.nextInt(rarely() ? 10000 : 12));
            } else {
                words.append(LETTERS.charAt(random.nextInt(LETTERS.length())));
            }
        }
    }

    private String dayText() {
        StringBuilder words = new StringBuilder();
        int acts = random.nextInt(rarely() ? 20 : 6);
        for (int i = 0; i < acts && words.length() < 72; i++) {
            words.append(i == 0 ? "" : ";");
            String cell = "" + (char) ('a' + random.nextInt(rarely() ? 8 : columns)) + (char) ('1' + random.nextInt(rarely() ? 8 : rows));
            switch (random.nextInt(6)) {
                case 0:
                    words.append('h').append(random.nextBoolean() ? "" : "" + (1 + random.nextInt(9)));
                    break;
                case 1:
                    words.append('s').append(cell).append(random.nextInt(10));
                    break;
                case 2:
                    words.append('t').append(cell).append(random.nextInt(10));
                    break;
                case 3:
                    words.append('o').append(random.nextInt(Math.max(1, y.count(2))));
                    break;
                case 4:
                    words.append('c').append(random.nextInt(Math.max(1, y.count(2))));
                    break;
                default:
                    words.append('d').append(random.nextInt(Math.max(1, y.count(4)))).append(besideOf());
                    break;
            }
        }
        return spoilt(words.toString(), "hstocd;abh1890");
    }

    private String besideOf() {
        int cell = besideHerd();
        return "" + (char) ('a' + cell % 8) + (char) ('1' + cell / 8 % 8);
    }

    /** A cell beside some herd, so that dogs often can. */
    private int besideHerd() {
        if (y.count(4) == 0 || rarely()) {
            return Math.floorMod(aCell(), 64);
        }
        int cell = y.herd(random.nextInt(y.count(4)), 0);
        int[] steps = {-8, 1, 8, -1};
        return Math.floorMod(cell + steps[random.nextInt(4)], 64);
    }

    private String sightings() {
        StringBuilder words = new StringBuilder();
        int seen = 1 + random.nextInt(rarely() ? 14 : 4);
        for (int i = 0; i < seen; i++) {
            int cell = aRoadCell();
            words.append((char) ('a' + cell % 8)).append((char) ('1' + cell / 8));
        }
        return spoilt(words.toString(), "abch1289");
    }

    private int aRoadCell() {
        for (int i = 0; i < 12; i++) {
            int cell = aCell();
            if (cell >= 0 && cell < 64 && naiveCell(cell, 6) == 1) {
                return cell;
            }
        }
        return Math.floorMod(aCell(), 64);
    }

    private void call() {
        int kind = random.nextInt(46);
        if (kind < 12) {
            changes(kind);
        } else if (kind < 22) {
            acts(kind);
        } else if (kind < 36) {
            questions(kind);
        } else {
            searches(kind);
        }
    }

    private void changes(int kind) {
        int a = upTo(9);
        int b = upTo(9);
        switch (kind) {
            case 0:
                if (random.nextInt(4) == 0) {
                    newMeadow();
                }
                break;
            case 1:
                if (random.nextInt(3) == 0) {
                    say(herdsText());
                    both("herds()", x.herds(), y.herds());
                }
                break;
            case 2:
            case 3:
                say(ruleText());
                both("rule()", x.rule(), y.rule());
                break;
            case 4:
                int what = upTo(1);
                int v = rarely() ? upTo(101) : upTo(20);
                both("set(" + what + ", " + v + ")", x.set(what, v), y.set(what, v));
                break;
            case 5:
                int sheet = upTo(3);
                int n = upTo(7) - (rarely() ? 3 : 0);
                int f = random.nextInt(3) == 0 ? random.nextInt() : upTo(12) - 2;
                int step = random.nextInt(3) == 0 ? random.nextInt() : upTo(5) - 2;
                both("sheet(" + sheet + ", " + n + ", " + f + ", " + step + ")",
                        x.sheet(sheet, n, f, step), y.sheet(sheet, n, f, step));
                break;
            case 6:
                int sign = random.nextInt();
                for (int i = rarely() ? 21 : 1; i > 0; i--) {
                    both("sign(" + sign + ")", x.sign(sign), y.sign(sign));
                }
                break;
            case 7:
                both("end(" + a + ")", x.end(a), y.end(a));
                break;
            case 8:
                int k = upTo(1);
                both("keep(" + k + ")", x.keep(k), y.keep(k));
                break;
            case 9:
                int place = upTo(1);
                both("again(" + place + ")", x.again(place), y.again(place));
                break;
            case 10:
                both("snow()", x.snow(), y.snow());
                break;
            default:
                both("count(" + b + ")", x.count(b), y.count(b));
                break;
        }
    }

    private void acts(int kind) {
        int cell = aCell();
        int v = upTo(9);
        int herd = aHerd();
        switch (kind) {
            case 12:
            case 13:
                both("salt(" + cell + ", " + v + ")", x.salt(cell, v), y.salt(cell, v));
                break;
            case 14:
                both("thistles(" + cell + ", " + v + ")", x.thistles(cell, v), y.thistles(cell, v));
                break;
            case 15:
            case 16:
                int gate = upTo(Math.max(0, y.count(2) - 1));
                int open = rarely() ? 2 : upTo(1);
                both("gate(" + gate + ", " + open + ")", x.gate(gate, open), y.gate(gate, open));
                break;
            case 17:
                int to = besideHerd();
                both("drive(" + herd + ", " + to + ")", x.drive(herd, to), y.drive(herd, to));
                break;
            case 18:
                both("hour()", x.hour(), y.hour());
                break;
            case 19:
                int n = rarely() ? upTo(61) : upTo(9);
                both("hours(" + n + ")", x.hours(n), y.hours(n));
                break;
            case 20:
                say(dayText());
                both("day()", x.day(), y.day());
                break;
            default:
                both("undo()", x.undo(), y.undo());
                break;
        }
    }

    private void questions(int kind) {
        int cell = aCell();
        int from = random.nextInt(3) == 0 ? aCell() : aRoadCell();
        int to = random.nextInt(3) == 0 ? aCell() : aRoadCell();
        int herd = aHerd();
        int n = someHours();
        switch (kind) {
            case 22:
                both("road()", x.road(), y.road());
                break;
            case 23:
                both("squares()", x.squares(), y.squares());
                break;
            case 24:
            case 25:
                both("cart(" + from + ", " + to + ")", x.cart(from, to), y.cart(from, to));
                break;
            case 26:
                both("joined(" + herd + ")", x.joined(herd), y.joined(herd));
                break;
            case 27:
                both("owners()", x.owners(), y.owners());
                break;
            case 28:
                both("least()", x.least(), y.least());
                break;
            case 29:
                both("furthest(" + from + ")", x.furthest(from), y.furthest(from));
                break;
            case 30:
                both("where(" + herd + ", " + n + ")", x.where(herd, n), y.where(herd, n));
                break;
            case 31:
                both("roadin(" + n + ")", x.roadin(n), y.roadin(n));
                break;
            case 32:
                both("market(" + cell + ", " + n + ")", x.market(cell, n), y.market(cell, n));
                break;
            case 33:
                both("trodden(" + cell + ")", x.trodden(cell), y.trodden(cell));
                break;
            case 34:
                both("meets()", x.meets(), y.meets());
                break;
            default:
                both("round(" + herd + ")", x.round(herd), y.round(herd));
                break;
        }
    }

    private void searches(int kind) {
        int cell = aCell();
        int from = random.nextInt(3) == 0 ? aCell() : aRoadCell();
        int to = random.nextInt(3) == 0 ? aCell() : aRoadCell();
        int herd = aHerd();
        int n = someHours();
        int few = rarely() ? someHours() : upTo(8);
        switch (kind) {
            case 36:
                both("lure(" + cell + ", " + few + ")", x.lure(cell, few), y.lure(cell, few));
                break;
            case 37:
                if (random.nextInt(2) == 0) {
                    both("hedge(" + cell + ", " + few + ")", x.hedge(cell, few), y.hedge(cell, few));
                }
                break;
            case 38:
                both("gates(" + herd + ", " + cell + ", " + few + ")", x.gates(herd, cell, few), y.gates(herd, cell, few));
                break;
            case 39:
                int k = upTo(21);
                both("ways(" + from + ", " + to + ", " + k + ")", x.ways(from, to, k), y.ways(from, to, k));
                break;
            case 40:
            case 41:
                say(sightings());
                both("bride()", x.bride(), y.bride());
                break;
            case 42:
                int hours = upTo(41);
                both("lost(" + cell + ", " + to + ", " + hours + ")", x.lost(cell, to, hours), y.lost(cell, to, hours));
                break;
            case 43:
                both("letter(" + cell + ")", x.letter(cell), y.letter(cell));
                break;
            case 44:
                both("thaw()", x.thaw(), y.thaw());
                break;
            default:
                int seed = random.nextInt();
                both("season(" + seed + ", " + n + ")", x.season(seed, n), y.season(seed, n));
                break;
        }
    }
}
