import java.util.ArrayList;
import java.util.Arrays;
import java.util.Collections;
import java.util.List;
import java.util.NoSuchElementException;
import java.util.regex.Matcher;
import java.util.regex.Pattern;

/**
 * The document once more, in the slowest and plainest way: texts by regular expressions and by
 * trying how they could go on, searches by trying all, nothing cut short. It shares no code and no
 * way of reckoning with the class, so that a fault must be made twice to go unseen.
 */
final class Naive {
    private static final int[] DX = {0, 0, 1, 0, -1};
    private static final int[] DY = {0, -1, 0, 1, 0};

    /** A tree of THE RULE. */
    private interface Node {
        int value(World w, int herd, int x, int y);
    }

    /** Cells, GATES, herds, NOW. */
    private static final class World {
        char[][] kind = new char[0][0];
        int[][] grass = new int[0][0];
        int[][] salt = new int[0][0];
        int[][] thistles = new int[0][0];
        int[][] last = new int[0][0];
        int[][] by = new int[0][0];
        List<int[]> gatePlaces = new ArrayList<>();
        boolean[] open = new boolean[6];
        List<int[]> herds = new ArrayList<>(); // x, y, greed, slow, lies
        int now;
        int keeps;

        World copy() {
            World w = new World();
            w.kind = kind;
            w.gatePlaces = gatePlaces;
            w.grass = deep(grass);
            w.salt = deep(salt);
            w.thistles = deep(thistles);
            w.last = deep(last);
            w.by = deep(by);
            w.open = open.clone();
            for (int[] h : herds) {
                w.herds.add(h.clone());
            }
            w.now = now;
            w.keeps = keeps;
            return w;
        }

        private static int[][] deep(int[][] a) {
            int[][] b = new int[a.length][];
            for (int i = 0; i < a.length; i++) {
                b[i] = a[i].clone();
            }
            return b;
        }

        boolean there(int x, int y) {
            return y >= 0 && y < kind.length && x >= 0 && x < kind[y].length;
        }

        boolean enters(int x, int y) {
            if (!there(x, y) || kind[y][x] == '#') {
                return false;
            }
            return kind[y][x] != '+' || open[gateNumber(x, y)];
        }

        int gateNumber(int x, int y) {
            for (int g = 0; g < gatePlaces.size(); g++) {
                if (gatePlaces.get(g)[0] == x && gatePlaces.get(g)[1] == y) {
                    return g;
                }
            }
            return -1;
        }

        boolean isRoad(int x, int y) {
            return there(x, y) && last[y][x] >= 0 && last[y][x] + keeps >= now;
        }

        int othersAt(int herd, int x, int y) {
            int n = 0;
            for (int h = 0; h < herds.size(); h++) {
                if (h != herd && herds.get(h)[0] == x && herds.get(h)[1] == y) {
                    n++;
                }
            }
            return n;
        }

        int firstAt(int cell) {
            for (int h = 0; h < herds.size(); h++) {
                if (place(h) == cell) {
                    return h;
                }
            }
            return -1;
        }

        int place(int h) {
            return 8 * herds.get(h)[1] + herds.get(h)[0];
        }
    }

    private String text = "";
    private World world = new World();
    private int keeps = 12;
    private int grows = 6;
    private Node rule = parse("g*2+s*5-t*3-r");
    private List<Long> row = new ArrayList<>();
    private final List<World> past = new ArrayList<>();
    private final World[] kept = new World[2];
    private List<Integer> snow;

    // ---- texts

    int sign(int v) {
        if (text.length() > 76) {
            return -1;
        }
        for (int i = 3; i >= 0; i--) {
            text += (char) (v >> 8 * i & 255);
        }
        return text.length();
    }

    boolean end(int n) {
        if (n < 0 || n > text.length()) {
            return false;
        }
        text = text.substring(0, n);
        return true;
    }

    private interface Language {
        boolean whole(String s);

        boolean canGoOn(String s);
    }

    private static int fault(String s, int limit, Language language) {
        for (int p = 0; p < Math.min(limit, s.length()); p++) {
            String ahead = s.substring(0, p + 1);
            if (!language.whole(ahead) && !language.canGoOn(ahead)) {
                return -1 - p;
            }
        }
        if (s.length() > limit) {
            return -1 - limit;
        }
        return language.whole(s) ? 0 : -1 - s.length();
    }

    private static final class ByPatterns implements Language {
        private final List<Pattern> patterns = new ArrayList<>();
        private final int mostGates;

        ByPatterns(int mostGates, String... regexes) {
            this.mostGates = mostGates;
            for (String regex : regexes) {
                patterns.add(Pattern.compile(regex, Pattern.DOTALL));
            }
        }

        @Override
        public boolean whole(String s) {
            for (Pattern pattern : patterns) {
                if (pattern.matcher(s).matches() && fewGates(s)) {
                    return true;
                }
            }
            return false;
        }

        @Override
        public boolean canGoOn(String s) {
            for (Pattern pattern : patterns) {
                Matcher matcher = pattern.matcher(s);
                if ((matcher.matches() || matcher.hitEnd()) && fewGates(s)) {
                    return true;
                }
            }
            return false;
        }

        private boolean fewGates(String s) {
            return s.length() - s.replace("+", "").length() <= mostGates;
        }
    }

    private static final Language MEADOWS = new ByPatterns(6, meadowPatterns());

    private static String[] meadowPatterns() {
        String[] all = new String[8];
        for (int w = 1; w <= 8; w++) {
            all[w - 1] = "[0-9#+]{" + w + "}(/[0-9#+]{" + w + "}){0,7}";
        }
        return all;
    }

    private static final String ACT = "(h[1-9]?|[st][a-h][1-8][0-9]|[oc][0-9]|d[0-9][a-h][1-8])";
    private static final Language DAYS = new ByPatterns(99, ACT + "(;" + ACT + ")*");

    private static final Language RULES = new Language() {
        @Override
        public boolean whole(String s) {
            try {
                parse(s);
                return nesting(s) <= 4;
            } catch (IllegalArgumentException e) {
                return false;
            }
        }

        @Override
        public boolean canGoOn(String s) {
            for (String thing : new String[] {"", "g"}) {
                for (String close : new String[] {"", ")", "))", ")))", "))))"}) {
                    if (whole(s + thing + close)) {
                        return true;
                    }
                }
            }
            return false;
        }
    };

    private static int nesting(String s) {
        int deepest = 0;
        int depth = 0;
        for (char c : s.toCharArray()) {
            depth += c == '(' ? 1 : c == ')' ? -1 : 0;
            deepest = Math.max(deepest, depth);
        }
        return deepest;
    }

    /** Splits at what binds least; throws what is no EXPRESSION. */
    private static Node parse(String s) {
        int at = topLevel(s, "<>=");
        if (at >= 0) {
            if (topLevel(s.substring(0, at), "<>=") >= 0) {
                throw new IllegalArgumentException();
            }
            return split(s, at);
        }
        at = topLevel(s, "+-");
        if (at < 0) {
            at = topLevel(s, "*/");
        }
        if (at >= 0) {
            return split(s, at);
        }
        if (s.startsWith("-")) {
            Node thing = parse(s.substring(1));
            return (w, h, x, y) -> -thing.value(w, h, x, y);
        }
        if (s.startsWith("(") && s.endsWith(")") && s.length() > 2) {
            return parse(s.substring(1, s.length() - 1));
        }
        if (s.matches("[0-9]{1,3}")) {
            int number = Integer.parseInt(s);
            return (w, h, x, y) -> number;
        }
        return letter(s);
    }

    /** The last binding of these that stands behind a thing, outside of ( ). */
    private static int topLevel(String s, String signs) {
        int depth = 0;
        int found = -1;
        for (int i = 0; i < s.length(); i++) {
            char c = s.charAt(i);
            depth += c == '(' ? 1 : c == ')' ? -1 : 0;
            if (depth < 0) {
                throw new IllegalArgumentException();
            }
            boolean behindThing = i > 0 && "0123456789gstrmoeik)".indexOf(s.charAt(i - 1)) >= 0;
            if (depth == 0 && signs.indexOf(c) >= 0 && (behindThing || c != '-')) {
                found = i;
            }
        }
        if (depth != 0) {
            throw new IllegalArgumentException();
        }
        return found;
    }

    private static Node split(String s, int at) {
        Node a = parse(s.substring(0, at));
        Node b = parse(s.substring(at + 1));
        char sign = s.charAt(at);
        return (w, h, x, y) -> {
            int p = a.value(w, h, x, y);
            int q = b.value(w, h, x, y);
            switch (sign) {
                case '<': return p < q ? 1 : 0;
                case '>': return p > q ? 1 : 0;
                case '=': return p == q ? 1 : 0;
                case '+': return p + q;
                case '-': return p - q;
                case '*': return p * q;
                default: return q == 0 ? 0 : (int) ((long) p / q);
            }
        };
    }

    private static Node letter(String s) {
        switch (s) {
            case "g": return (w, h, x, y) -> w.grass[y][x];
            case "s": return (w, h, x, y) -> w.salt[y][x];
            case "t": return (w, h, x, y) -> w.thistles[y][x];
            case "r": return (w, h, x, y) -> w.isRoad(x, y) ? 1 : 0;
            case "m": return (w, h, x, y) -> w.place(h) != 8 * y + x ? 1 : 0;
            case "o": return (w, h, x, y) -> w.othersAt(h, x, y);
            case "e": return (w, h, x, y) -> w.herds.get(h)[2];
            case "i": return (w, h, x, y) -> h;
            case "k": return (w, h, x, y) -> w.now;
            default: throw new IllegalArgumentException();
        }
    }

    private String taken() {
        String s = text;
        text = "";
        return s;
    }

    int meadow() {
        String s = taken();
        int fault = fault(s, 76, MEADOWS);
        if (fault < 0) {
            return fault;
        }
        World w = new World();
        String[] lines = s.split("/");
        int columns = lines[0].length();
        w.kind = new char[lines.length][columns];
        w.grass = new int[lines.length][columns];
        w.salt = new int[lines.length][columns];
        w.thistles = new int[lines.length][columns];
        w.last = new int[lines.length][columns];
        w.by = new int[lines.length][columns];
        for (int y = 0; y < lines.length; y++) {
            for (int x = 0; x < columns; x++) {
                char c = lines[y].charAt(x);
                w.kind[y][x] = Character.isDigit(c) ? '.' : c;
                w.grass[y][x] = Character.isDigit(c) ? c - '0' : 0;
                w.last[y][x] = -1;
                w.by[y][x] = -1;
                if (c == '+') {
                    w.gatePlaces.add(new int[] {x, y});
                }
            }
        }
        w.keeps = keeps;
        world = w;
        past.clear();
        kept[0] = null;
        kept[1] = null;
        snow = null;
        return columns * lines.length;
    }

    int herds() {
        String s = taken();
        if (s.isEmpty()) {
            return 0;
        }
        int fault = fault(s, 76, herdsOfNow());
        if (fault < 0) {
            return fault;
        }
        for (String told : s.split(";")) {
            int x = told.charAt(0) - 'a';
            int y = told.charAt(1) - '1';
            world.herds.add(new int[] {x, y, told.charAt(2) - '0', told.endsWith("*") ? 1 : 0, 1});
            world.last[y][x] = world.now;
            world.by[y][x] = world.herds.size() - 1;
        }
        past.clear();
        kept[0] = null;
        kept[1] = null;
        return s.split(";").length;
    }

    private Language herdsOfNow() {
        int room = 6 - world.herds.size();
        return new Language() {
            @Override
            public boolean whole(String t) {
                return canGoOn(t + ";") && t.split(";", -1).length <= room;
            }

            @Override
            public boolean canGoOn(String t) {
                String[] lines = t.split(";", -1);
                for (int i = 0; i < lines.length - 1; i++) {
                    if (lines[i].length() < 3 || !begins(lines[i])) {
                        return false;
                    }
                }
                String latest = lines[lines.length - 1];
                return latest.isEmpty() || lines.length <= room && begins(latest);
            }
        };
    }

    private boolean begins(String line) {
        if (!line.matches("[a-h]([1-8]([0-9]\\*?)?)?")) {
            return false;
        }
        int x = line.charAt(0) - 'a';
        if (line.length() == 1) {
            return world.there(x, 0);
        }
        int y = line.charAt(1) - '1';
        return world.there(x, y) && world.kind[y][x] == '.';
    }

    int rule() {
        String s = taken();
        if (s.isEmpty()) {
            rule = parse("g*2+s*5-t*3-r");
            return 0;
        }
        int fault = fault(s, 40, RULES);
        if (fault == 0) {
            rule = parse(s);
        }
        return fault;
    }

    // ---- what is asked of cells and herds

    private boolean isCell(int cell) {
        return cell >= 0 && cell < 64 && world.there(cell % 8, cell / 8);
    }

    private boolean isHerd(int herd) {
        return herd >= 0 && herd < world.herds.size();
    }

    int cell(int cell, int what) {
        if (!isCell(cell)) {
            throw new NoSuchElementException();
        }
        int x = cell % 8;
        int y = cell / 8;
        switch (what) {
            case 0: return world.grass[y][x];
            case 1: return world.salt[y][x];
            case 2: return world.thistles[y][x];
            case 3: return world.kind[y][x] == '.' ? 0 : world.kind[y][x] == '#' ? 1 : world.enters(x, y) ? 3 : 2;
            case 4: return world.last[y][x];
            case 5: return world.by[y][x];
            case 6: return world.isRoad(x, y) ? 1 : 0;
            case 7:
                int bits = 0;
                for (int h = 0; h < world.herds.size(); h++) {
                    bits += world.place(h) == cell ? 1 << h : 0;
                }
                return bits;
            default: throw new NoSuchElementException();
        }
    }

    int herd(int herd, int what) {
        if (!isHerd(herd)) {
            throw new NoSuchElementException();
        }
        int[] h = world.herds.get(herd);
        switch (what) {
            case 0: return world.place(herd);
            case 1: return h[2];
            case 2: return h[3];
            case 3: return h[4];
            case 4: return turn(world, herd);
            default: throw new NoSuchElementException();
        }
    }

    int set(int what, int v) {
        if (v > 99 || v < 0) {
            return -1;
        }
        if (what == 0) {
            int was = keeps;
            keeps = v;
            world.keeps = v;
            return was;
        }
        if (what == 1 && v > 0) {
            int was = grows;
            grows = v;
            return was;
        }
        return -1;
    }

    int sheet(int kind, int n, int f, int step) {
        if (kind < 0 || kind > 3 || n > 6) {
            return -1;
        }
        if (kind < 3 && n < 0) {
            return -2;
        }
        int[] entries = new int[6];
        for (int i = 0; i < n && kind < 3; i++) {
            long value = (long) f + (long) i * step;
            int told = kind == 0 ? (byte) value : kind == 1 ? (short) value : (int) value;
            entries[i] = told < 0 ? 0 : told > 9 ? 9 : told;
        }
        int sum = 0;
        for (int h = 0; h < world.herds.size(); h++) {
            world.herds.get(h)[2] = entries[h];
            sum += entries[h];
        }
        return kind == 3 ? -3 : sum;
    }

    // ---- hours

    private int turn(World w, int herd) {
        int[] h = w.herds.get(herd);
        if (h[3] == 1 && w.now % 2 == 1) {
            return w.place(herd);
        }
        List<int[]> choices = new ArrayList<>();
        for (int d = 0; d < 5; d++) {
            int x = h[0] + DX[d];
            int y = h[1] + DY[d];
            if (d == 0 || w.enters(x, y)) {
                choices.add(new int[] {8 * y + x, rule.value(w, herd, x, y)});
            }
        }
        int most = Collections.max(choices, (a, b) -> Integer.compare(a[1], b[1]))[1];
        for (int[] choice : choices) {
            if (choice[1] == most) {
                return choice[0];
            }
        }
        throw new IllegalStateException();
    }

    private int pass(World w) {
        w.now++;
        int moved = 0;
        for (int herd = 0; herd < w.herds.size(); herd++) {
            int was = w.place(herd);
            int cell = turn(w, herd);
            int x = cell % 8;
            int y = cell / 8;
            int[] h = w.herds.get(herd);
            h[0] = x;
            h[1] = y;
            h[4] = was == cell ? 1 : 0;
            moved += was == cell ? 0 : 1;
            w.last[y][x] = w.now;
            w.by[y][x] = herd;
            if (w.grass[y][x] > 0) {
                w.grass[y][x]--;
            } else if (w.salt[y][x] > 0) {
                w.salt[y][x]--;
            }
        }
        if (w.now % grows == 0) {
            for (int y = 0; y < w.kind.length; y++) {
                for (int x = 0; x < w.kind[y].length; x++) {
                    if (w.kind[y][x] == '.' && w.othersAt(-1, x, y) == 0 && w.grass[y][x] < 9) {
                        w.grass[y][x]++;
                    }
                }
            }
        }
        return moved;
    }

    private void remember(World ahead) {
        past.add(ahead);
        if (past.size() > 10) {
            past.remove(0);
        }
    }

    private void tell(long... numbers) {
        row = new ArrayList<>();
        for (long number : numbers) {
            row.add(number);
        }
    }

    private void tellPlaces(World w) {
        row = new ArrayList<>();
        for (int h = 0; h < w.herds.size(); h++) {
            row.add((long) w.place(h));
        }
    }

    private int lay(boolean isSalt, int cell, int v) {
        if (isCell(cell) && world.kind[cell / 8][cell % 8] != '.') {
            return -2;
        }
        if (!isCell(cell) || v < 0 || v > 9) {
            return -1;
        }
        int[][] amounts = isSalt ? world.salt : world.thistles;
        int was = amounts[cell / 8][cell % 8];
        amounts[cell / 8][cell % 8] = v;
        return was;
    }

    private int act(int answer, World ahead) {
        if (answer >= 0) {
            remember(ahead);
        }
        return answer;
    }

    int salt(int cell, int v) {
        World ahead = world.copy();
        return act(lay(true, cell, v), ahead);
    }

    int thistles(int cell, int v) {
        World ahead = world.copy();
        return act(lay(false, cell, v), ahead);
    }

    private int turnGate(int gate, int v) {
        if (gate < 0 || gate >= world.gatePlaces.size()) {
            return -1;
        }
        int[] place = world.gatePlaces.get(gate);
        if (world.firstAt(8 * place[1] + place[0]) >= 0) {
            return -2;
        }
        if (v < 0 || v > 1) {
            return -1;
        }
        int was = world.open[gate] ? 1 : 0;
        world.open[gate] = v == 1;
        return was;
    }

    int gate(int gate, int v) {
        World ahead = world.copy();
        return act(turnGate(gate, v), ahead);
    }

    private int driveTo(int herd, int cell) {
        if (!isHerd(herd) || !isCell(cell)) {
            return -1;
        }
        int[] h = world.herds.get(herd);
        int x = cell % 8;
        int y = cell / 8;
        if (Math.abs(h[0] - x) + Math.abs(h[1] - y) != 1 || !world.enters(x, y)) {
            return -2;
        }
        int was = world.place(herd);
        h[0] = x;
        h[1] = y;
        h[4] = 0;
        world.last[y][x] = world.now;
        world.by[y][x] = herd;
        return was;
    }

    int drive(int herd, int cell) {
        World ahead = world.copy();
        return act(driveTo(herd, cell), ahead);
    }

    int hour() {
        return hours(1);
    }

    int hours(int n) {
        if (n < 0 || n > 60) {
            return -1;
        }
        World ahead = world.copy();
        int moved = 0;
        for (int i = 0; i < n; i++) {
            moved += pass(world);
        }
        tellPlaces(world);
        if (n > 0) {
            remember(ahead);
        }
        return moved;
    }

    int day() {
        String s = taken();
        if (!s.isEmpty() && fault(s, 60, DAYS) < 0) {
            return fault(s, 60, DAYS);
        }
        World ahead = world.copy();
        int done = 0;
        int moved = 0;
        int stuck = 0;
        for (String told : s.isEmpty() ? new String[0] : s.split(";")) {
            int answer = 0;
            char[] c = Arrays.copyOf(told.toCharArray(), 4);
            switch (c[0]) {
                case 'h':
                    for (int i = 0; i < (told.length() == 1 ? 1 : c[1] - '0'); i++) {
                        moved += pass(world);
                    }
                    break;
                case 's': answer = lay(true, 8 * (c[2] - '1') + c[1] - 'a', c[3] - '0'); break;
                case 't': answer = lay(false, 8 * (c[2] - '1') + c[1] - 'a', c[3] - '0'); break;
                case 'o': answer = turnGate(c[1] - '0', 1); break;
                case 'c': answer = turnGate(c[1] - '0', 0); break;
                default: answer = driveTo(c[1] - '0', 8 * (c[3] - '1') + c[2] - 'a'); break;
            }
            if (answer < 0) {
                stuck = 1;
                break;
            }
            done++;
        }
        if (done > 0) {
            remember(ahead);
        }
        tell(stuck, moved);
        return done;
    }

    int undo() {
        if (past.isEmpty()) {
            return -1;
        }
        world = past.remove(past.size() - 1);
        world.keeps = keeps;
        return past.size();
    }

    // ---- the road as it is

    private static List<Integer> roadOf(World w) {
        List<Integer> cells = new ArrayList<>();
        for (int cell = 0; cell < 64; cell++) {
            if (w.isRoad(cell % 8, cell / 8)) {
                cells.add(cell);
            }
        }
        return cells;
    }

    private static long bits(List<Integer> cells) {
        long all = 0;
        for (int cell : cells) {
            all += 1L << cell;
        }
        return all;
    }

    private static boolean side(int a, int b) {
        return Math.abs(a % 8 - b % 8) + Math.abs(a / 8 - b / 8) == 1;
    }

    /** Fewest steps from a cell to all others by those of a list; 999: none. */
    private static int[] steps(List<Integer> cells, int from) {
        int[] far = new int[64];
        Arrays.fill(far, 999);
        if (!cells.contains(from)) {
            return far;
        }
        far[from] = 0;
        for (int i = 0; i < 64; i++) {
            for (int a : cells) {
                for (int b : cells) {
                    if (side(a, b)) {
                        far[b] = Math.min(far[b], far[a] + 1);
                    }
                }
            }
        }
        for (int i = 0; i < 64; i++) {
            far[i] = Math.min(far[i], 999);
        }
        return far;
    }

    private static List<Integer> piece(List<Integer> cells, int from) {
        List<Integer> found = new ArrayList<>();
        int[] far = steps(cells, from);
        for (int cell : cells) {
            if (far[cell] < 999) {
                found.add(cell);
            }
        }
        return found;
    }

    int road() {
        List<Integer> cells = roadOf(world);
        List<Integer> left = new ArrayList<>(cells);
        int pieces = 0;
        int largest = 0;
        while (!left.isEmpty()) {
            List<Integer> piece = piece(cells, left.get(0));
            pieces++;
            largest = Math.max(largest, piece.size());
            left.removeAll(piece);
        }
        tell(bits(cells), pieces, largest);
        return cells.size();
    }

    int squares() {
        List<Integer> cells = roadOf(world);
        List<Integer> found = new ArrayList<>();
        for (int a : cells) {
            int n = 0;
            for (int b : cells) {
                n += side(a, b) ? 1 : 0;
            }
            if (n > 2) {
                found.add(a);
            }
        }
        tell(bits(found));
        return found.size();
    }

    int cart(int from, int to) {
        if (!isCell(from) || !isCell(to)) {
            return -1;
        }
        List<Integer> cells = roadOf(world);
        int[] far = steps(cells, to);
        if (far[from] == 999) {
            return -2;
        }
        List<Long> way = new ArrayList<>();
        int cell = from;
        way.add((long) cell);
        while (cell != to) {
            for (int next = 0; next < 64; next++) {
                if (side(cell, next) && far[next] == far[cell] - 1) {
                    cell = next;
                    break;
                }
            }
            way.add((long) cell);
        }
        row = way.size() > 14 ? new ArrayList<>(way.subList(0, 14)) : way;
        return far[from];
    }

    int joined(int herd) {
        if (!isHerd(herd)) {
            return -1;
        }
        List<Integer> piece = piece(roadOf(world), world.place(herd));
        if (piece.isEmpty()) {
            return -2;
        }
        int bits = 0;
        for (int h = 0; h < world.herds.size(); h++) {
            bits += piece.contains(world.place(h)) ? 1 << h : 0;
        }
        tell(piece.size());
        return bits;
    }

    int owners() {
        if (world.herds.isEmpty()) {
            return -2;
        }
        long[] owned = new long[world.herds.size()];
        for (int cell : roadOf(world)) {
            owned[world.by[cell / 8][cell % 8]]++;
        }
        tell(owned);
        int best = 0;
        for (int h = 1; h < owned.length; h++) {
            best = owned[h] > owned[best] ? h : best;
        }
        return best;
    }

    private static int meeting(World w) {
        if (w.herds.isEmpty()) {
            return 0;
        }
        List<Integer> piece = piece(roadOf(w), w.place(0));
        for (int h = 0; h < w.herds.size(); h++) {
            if (!piece.contains(w.place(h))) {
                return 0;
            }
        }
        return piece.size();
    }

    int least() {
        for (int k = 0; k < 100; k++) {
            World w = world.copy();
            w.keeps = k;
            if (meeting(w) > 0) {
                tell(meeting(w));
                return k;
            }
        }
        return -2;
    }

    int furthest(int cell) {
        if (!isCell(cell)) {
            return -1;
        }
        List<Integer> cells = roadOf(world);
        if (!cells.contains(cell)) {
            return -2;
        }
        int[] far = steps(cells, cell);
        int best = -1;
        for (int other : piece(cells, cell)) {
            if (best < 0 || far[other] > far[best]) {
                best = other;
            }
        }
        tell(far[best]);
        return best;
    }

    // ---- hours to come

    private World in(int n) {
        World w = world.copy();
        for (int i = 0; i < n; i++) {
            pass(w);
        }
        return w;
    }

    int where(int herd, int n) {
        if (!isHerd(herd) || n < 0 || n > 100) {
            return -1;
        }
        World w = in(n);
        tell(w.herds.get(herd)[4], roadOf(w).size());
        return w.place(herd);
    }

    int roadin(int n) {
        if (n < 0 || n > 100) {
            return -1;
        }
        List<Integer> then = roadOf(in(n));
        List<Integer> gone = roadOf(world);
        gone.removeAll(then);
        tell(bits(then), bits(gone));
        return then.size();
    }

    int market(int cell, int n) {
        if (!isCell(cell) || n < 1 || n > 100) {
            return -1;
        }
        StringBuilder days = new StringBuilder();
        World w = world.copy();
        for (int i = 1; i <= n; i++) {
            pass(w);
            days.append(w.isRoad(cell % 8, cell / 8) ? 'R' : '.');
        }
        String all = days.toString();
        int longest = 0;
        for (String run : all.split("\\.")) {
            longest = Math.max(longest, run.length());
        }
        int first = all.indexOf('R');
        tell(first < 0 ? -1 : first + 1, first < 0 ? -1 : all.lastIndexOf('R') + 1, longest);
        return all.replace(".", "").length();
    }

    int trodden(int cell) {
        if (!isCell(cell)) {
            return -1;
        }
        for (int n = 0; n <= 100; n++) {
            World w = in(n);
            if (w.firstAt(cell) >= 0) {
                tell(w.firstAt(cell));
                return n;
            }
        }
        return -2;
    }

    int meets() {
        World w = world.copy();
        for (int n = 0; n <= 100; n++) {
            if (meeting(w) > 0) {
                tell(meeting(w));
                return n;
            }
            pass(w);
        }
        return -2;
    }

    int round(int herd) {
        if (!isHerd(herd)) {
            return -1;
        }
        List<Integer> places = new ArrayList<>();
        World w = world.copy();
        for (int n = 0; n <= 100; n++) {
            int was = places.indexOf(w.place(herd));
            if (was >= 0) {
                tell(w.place(herd), n - was);
                return n;
            }
            places.add(w.place(herd));
            pass(w);
        }
        throw new IllegalStateException("a herd has no more than 64 cells");
    }

    // ---- salt, gates

    private boolean comes(World w, int cell, int n) {
        for (int i = 0; i < n; i++) {
            pass(w);
            if (w.firstAt(cell) >= 0) {
                return true;
            }
        }
        return false;
    }

    int lure(int cell, int n) {
        if (!isCell(cell) || n < 1 || n > 100) {
            return -1;
        }
        if (world.firstAt(cell) >= 0 || comes(world.copy(), cell, n)) {
            tell(-1);
            return 0;
        }
        for (int more = 1; more <= 9; more++) {
            for (int spot = 0; spot < 64; spot++) {
                if (isCell(spot) && world.kind[spot / 8][spot % 8] == '.' && world.salt[spot / 8][spot % 8] + more <= 9) {
                    World w = world.copy();
                    w.salt[spot / 8][spot % 8] += more;
                    if (comes(w, cell, n)) {
                        tell(spot);
                        return more;
                    }
                }
            }
        }
        return -2;
    }

    int hedge(int cell, int n) {
        if (!isCell(cell) || n < 1 || n > 100) {
            return -1;
        }
        List<Integer> spots = new ArrayList<>();
        for (int spot = 0; spot < 64; spot++) {
            if (isCell(spot) && world.kind[spot / 8][spot % 8] == '.') {
                spots.add(spot);
            }
        }
        if (keptOff(cell, n)) {
            tell();
            return 0;
        }
        for (int a : spots) {
            if (keptOff(cell, n, a)) {
                tell(a);
                return 1;
            }
        }
        for (int a : spots) {
            for (int b : spots) {
                if (a < b && keptOff(cell, n, a, b)) {
                    tell(a, b);
                    return 2;
                }
            }
        }
        return -2;
    }

    private boolean keptOff(int cell, int n, int... spots) {
        World w = world.copy();
        for (int spot : spots) {
            w.thistles[spot / 8][spot % 8] = 9;
        }
        return !comes(w, cell, n);
    }

    int gates(int herd, int cell, int n) {
        if (!isHerd(herd) || !isCell(cell) || n < 1 || n > 100) {
            return -1;
        }
        int count = world.gatePlaces.size();
        List<Integer> sets = new ArrayList<>();
        for (int set = 0; set < 1 << count; set++) {
            World w = world.copy();
            boolean can = true;
            for (int g = 0; g < count; g++) {
                w.open[g] = (set >> g & 1) == 1;
                int[] place = world.gatePlaces.get(g);
                can &= w.open[g] || world.firstAt(8 * place[1] + place[0]) < 0;
            }
            for (int i = 0; i < n; i++) {
                if (can) {
                    pass(w);
                }
            }
            if (can && w.place(herd) == cell) {
                sets.add(set);
            }
        }
        int all = sets.isEmpty() ? 0 : 63;
        for (int set : sets) {
            all &= set;
        }
        sets.sort((a, b) -> Integer.bitCount(a) != Integer.bitCount(b)
                ? Integer.compare(Integer.bitCount(a), Integer.bitCount(b)) : Integer.compare(a, b));
        tell(sets.isEmpty() ? -1 : sets.get(0), all);
        return sets.size();
    }

    // ---- the bride, lost cows, letters

    int ways(int from, int to, int k) {
        if (!isCell(from) || !isCell(to) || k < 0 || k > 20) {
            return -1;
        }
        List<Integer> cells = roadOf(world);
        long[][] n = new long[k + 1][64];
        n[0][to] = cells.contains(to) ? 1 : 0;
        for (int i = 1; i <= k; i++) {
            for (int a : cells) {
                for (int b : cells) {
                    n[i][a] += side(a, b) ? n[i - 1][b] : 0;
                }
            }
        }
        int next = -1;
        for (int b = 63; b >= 0 && k > 0; b--) {
            if (cells.contains(from) && side(from, b) && n[k - 1][b] > 0) {
                next = b;
            }
        }
        tell(next);
        return (int) Math.min(1000000, n[k][from]);
    }

    int bride() {
        String s = taken();
        StringBuilder digits = new StringBuilder("[");
        String regex = "(?!)";
        if (world.kind.length > 0) {
            digits.append("1-").append(world.kind.length).append(']');
            regex = "([a-" + (char) ('a' + world.kind[0].length - 1) + "]" + digits + "){1,12}";
        }
        int fault = fault(s, 80, new ByPatterns(99, regex));
        if (fault < 0) {
            return fault;
        }
        List<Integer> cells = roadOf(world);
        List<Integer> seen = new ArrayList<>();
        for (int i = 0; i < s.length(); i += 2) {
            seen.add(8 * (s.charAt(i + 1) - '1') + s.charAt(i) - 'a');
        }
        if (!cells.containsAll(seen)) {
            return -100;
        }
        int steps = 0;
        double all = 1;
        for (int i = 1; i < seen.size(); i++) {
            int[] far = steps(cells, seen.get(i));
            if (far[seen.get(i - 1)] == 999) {
                return -100;
            }
            steps += far[seen.get(i - 1)];
            all *= shortest(cells, far, seen.get(i - 1), new double[64]);
        }
        tell((long) Math.min(1000000, all));
        return steps;
    }

    private static double shortest(List<Integer> cells, int[] far, int from, double[] known) {
        if (far[from] == 0) {
            return 1;
        }
        if (known[from] == 0) {
            for (int b : cells) {
                known[from] += side(from, b) && far[b] == far[from] - 1 ? shortest(cells, far, b, known) : 0;
            }
        }
        return known[from];
    }

    int lost(int from, int to, int n) {
        if (!isCell(from) || !isCell(to) || n < 0 || n > 40 || !world.enters(from % 8, from / 8)) {
            return -1;
        }
        int[] share = new int[64];
        share[from] = 1000000;
        for (int i = 0; i < n; i++) {
            int[] next = new int[64];
            for (int a = 0; a < 64; a++) {
                List<Integer> choices = new ArrayList<>();
                for (int b = 0; b < 64; b++) {
                    if (isCell(b) && world.enters(b % 8, b / 8) && (a == b || side(a, b))) {
                        choices.add(b);
                    }
                }
                for (int b : choices) {
                    next[b] += share[a] / choices.size();
                }
            }
            share = next;
        }
        int best = 0;
        for (int a = 1; a < 64; a++) {
            best = share[a] > share[best] ? a : best;
        }
        tell(best);
        return share[to];
    }

    int letter(int cell) {
        if (!isCell(cell)) {
            return -1;
        }
        int by = -1;
        int since = 0;
        for (int n = 0; n <= 100; n++) {
            World w = in(n);
            if (by >= 0 && n > since && w.herds.get(by)[4] == 1) {
                tell(by, w.place(by));
                return n;
            }
            if (by < 0) {
                by = w.firstAt(cell);
                since = n;
            }
        }
        return -2;
    }

    // ---- winter, seasons, kept

    int snow() {
        snow = roadOf(world);
        return snow.size();
    }

    int thaw() {
        if (snow == null) {
            return -2;
        }
        List<Integer> gone = new ArrayList<>(snow);
        gone.removeAll(roadOf(world));
        List<Integer> come = roadOf(world);
        come.removeAll(snow);
        tell(bits(gone), bits(come));
        return gone.size();
    }

    int season(int seed, int n) {
        if (n < 1 || n > 60 || world.kind.length == 0) {
            return -1;
        }
        World w = world.copy();
        int columns = w.kind[0].length;
        long r = seed & 0xFFFFFFFFL;
        int moved = 0;
        for (int i = 0; i < n; i++) {
            r = (r * 1103515245L + 12345L) & 0xFFFFFFFFL;
            int told = (int) (r / 65536 % (columns * w.kind.length));
            int x = told % columns;
            int y = told / columns;
            int was = w.thistles[y][x];
            if (w.kind[y][x] == '.') {
                w.thistles[y][x] = 9;
            }
            moved += pass(w);
            w.thistles[y][x] = was;
        }
        tellPlaces(w);
        return moved;
    }

    boolean keep(int i) {
        if (i != 0 && i != 1) {
            return false;
        }
        kept[i] = world.copy();
        return true;
    }

    boolean again(int i) {
        if (i != 0 && i != 1 || kept[i] == null) {
            return false;
        }
        world = kept[i].copy();
        world.keeps = keeps;
        past.clear();
        return true;
    }

    int count(int what) {
        int sum = 0;
        switch (what) {
            case 0: return world.kind.length == 0 ? 0 : world.kind[0].length;
            case 1: return world.kind.length;
            case 2: return world.gatePlaces.size();
            case 3:
                for (int g = 0; g < 6; g++) {
                    sum += world.open[g] ? 1 << g : 0;
                }
                return sum;
            case 4: return world.herds.size();
            case 5:
                for (int h = 0; h < world.herds.size(); h++) {
                    sum += world.herds.get(h)[4] << h;
                }
                return sum;
            case 6: return world.now;
            case 7: return keeps;
            case 8: return grows;
            case 9:
                for (int[] line : world.grass) {
                    for (int g : line) {
                        sum += g;
                    }
                }
                return sum;
            case 10: return past.size();
            case 11: return row.size();
            case 12: return text.length();
            default: return -1;
        }
    }

    long row(int i) {
        if (i < 0 || i >= row.size()) {
            throw new NoSuchElementException();
        }
        return row.get(i);
    }
}
