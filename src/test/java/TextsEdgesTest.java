/** The boundary cases of promises 1 to 6, 17 and 36: a new object, and the calls that read THE TEXT. */
public final class TextsEdgesTest {
    private static final Check CHECK = new Check();
    private static final int MOST = Integer.MAX_VALUE;
    private static final int LEAST = Integer.MIN_VALUE;

    public static void main(String[] args) {
        newObjectTells();
        newObjectDoes();
        newObjectIsAsked();
        newObjectReads();
        signs();
        ends();
        meadowEndsTooEarly();
        meadowAnew();
        herdsOfNothing();
        herdsAllOrNone();
        noRule();
        ruleBegun();
        dayOfSixtySigns();
        dayOfNothing();
        dayMoves();
        dayTillOneCannotBe();
        brideOfOneToTwelve();
        brideWaysAtMost();
        emptied();
        CHECK.close("TextsEdgesTest");
    }

    /** Promise 1: "No cells, no herds." */
    private static void newObjectTells() {
        RoadsByCows x = new RoadsByCows();
        for (int cell : new int[] {-1, 0, 1, 8, 63, 64}) {
            CHECK.due("new: cell(" + cell + ", 3)", Check.cell(x, cell, 3), Check.THROWN);
        }
        for (int herd : new int[] {-1, 0, 5, 6}) {
            CHECK.due("new: herd(" + herd + ", 0)", Check.herd(x, herd, 0), Check.THROWN);
        }
        int[] due = {-1, 0, 0, 0, 0, 0, 0, 0, 12, 6, 0, 0, 0, 0, -1};
        for (int i = 0; i < due.length; i++) {
            CHECK.due("new: count(" + (i - 1) + ")", x.count(i - 1), due[i]);
        }
        CHECK.dueRow("new", x);
    }

    private static void newObjectDoes() {
        RoadsByCows x = new RoadsByCows();
        CHECK.due("new: salt()", x.salt(0, 1), -1);
        CHECK.due("new: thistles()", x.thistles(0, 1), -1);
        CHECK.due("new: gate()", x.gate(0, 1), -1);
        CHECK.due("new: drive()", x.drive(0, 0), -1);
        CHECK.due("new: sheet()", x.sheet(2, 6, 9, 0), 0);
        CHECK.due("new: a missing sheet()", x.sheet(3, 0, 0, 0), -3);
        CHECK.due("new: undo()", x.undo(), -1);
        CHECK.due("new: again(0)", x.again(0), false);
        CHECK.due("new: again(1)", x.again(1), false);
        CHECK.due("new: keep(1)", x.keep(1), true);
        CHECK.due("new: hour()", x.hour(), 0);
        CHECK.dueRow("new: hour()", x);
        CHECK.due("new: hours(60)", x.hours(60), 0);
        CHECK.due("new: NOW", x.count(6), 61);
        CHECK.due("new: what can be undone", x.undo(), 1);
        CHECK.due("new: NOW", x.count(6), 1);
        CHECK.due("new: what is kept", x.again(1), true);
        CHECK.due("new: NOW", x.count(6), 0);
        CHECK.due("new: set(0, 0)", x.set(0, 0), 12);
        CHECK.due("new: set(1, 1)", x.set(1, 1), 6);
        CHECK.due("new: hour() with GROWS 1", x.hour(), 0);
        CHECK.due("new: GRASS in all", x.count(9), 0);
    }

    private static void newObjectIsAsked() {
        RoadsByCows x = new RoadsByCows();
        CHECK.due("new: road()", x.road(), 0);
        CHECK.dueRow("new: road()", x, 0, 0, 0);
        CHECK.due("new: squares()", x.squares(), 0);
        CHECK.dueRow("new: squares()", x, 0);
        CHECK.due("new: cart()", x.cart(0, 0), -1);
        CHECK.due("new: joined()", x.joined(0), -1);
        CHECK.due("new: owners()", x.owners(), -2);
        CHECK.due("new: least()", x.least(), -2);
        CHECK.due("new: furthest()", x.furthest(0), -1);
        CHECK.due("new: where()", x.where(0, 0), -1);
        CHECK.due("new: market()", x.market(0, 1), -1);
        CHECK.due("new: trodden()", x.trodden(0), -1);
        CHECK.due("new: meets()", x.meets(), -2);
        CHECK.due("new: round()", x.round(0), -1);
        CHECK.due("new: lure()", x.lure(0, 1), -1);
        CHECK.due("new: hedge()", x.hedge(0, 1), -1);
        CHECK.due("new: gates()", x.gates(0, 0, 1), -1);
        CHECK.due("new: ways()", x.ways(0, 0, 0), -1);
        CHECK.due("new: lost()", x.lost(0, 0, 0), -1);
        CHECK.due("new: letter()", x.letter(0), -1);
        CHECK.due("new: thaw()", x.thaw(), -2);
        CHECK.due("new: season()", x.season(1, 1), -1);
        CHECK.dueRow("they leave the ROW", x, 0);
        CHECK.due("new: roadin(100)", x.roadin(100), 0);
        CHECK.dueRow("new: roadin(100)", x, 0, 0);
        CHECK.due("new: snow()", x.snow(), 0);
        CHECK.due("new: thaw() behind it", x.thaw(), 0);
        CHECK.dueRow("new: thaw() behind it", x, 0, 0);
    }

    private static void newObjectReads() {
        RoadsByCows x = new RoadsByCows();
        CHECK.due("new: an empty meadow()", x.meadow(), -1);
        CHECK.due("new: an empty herds()", x.herds(), 0);
        CHECK.due("new: herds()", Check.herds(x, "a11"), -1);
        CHECK.due("new: an empty rule()", x.rule(), 0);
        CHECK.due("new: rule()", Check.rule(x, "m"), 0);
        CHECK.due("new: an empty bride()", x.bride(), -1);
        CHECK.due("new: bride()", Check.bride(x, "a1"), -1);
        CHECK.due("new: an empty day()", x.day(), 0);
        CHECK.dueRow("new: an empty day()", x, 0, 0);
        for (String act : new String[] {"sa11", "th81", "o0", "c0", "d0a1"}) {
            CHECK.due("new: day " + act, Check.day(x, act), 0);
            CHECK.dueRow("new: day " + act, x, 1, 0);
        }
        CHECK.due("new: day h;h9", Check.day(x, "h;h9"), 2);
        CHECK.dueRow("new: day h;h9", x, 0, 0);
        CHECK.due("new: NOW", x.count(6), 10);
    }

    /** Promise 2: "Refused: there would be more than 80." */
    private static void signs() {
        for (int n = 0; n <= 80; n++) {
            RoadsByCows x = new RoadsByCows();
            for (int i = 0; i < 20; i++) {
                CHECK.due("sign()", x.sign(0x30303030), 4 * i + 4);
            }
            x.end(n);
            CHECK.due("sign() behind " + n, x.sign(0x30303030), n <= 76 ? n + 4 : -1);
            CHECK.due("signs", x.count(12), n <= 76 ? n + 4 : n);
        }
        // Each byte as it is, the highest first, whatever v is.
        for (int v : new int[] {0, -1, 1, MOST, LEAST, 0x80808080}) {
            CHECK.due("sign(" + v + ")", new RoadsByCows().sign(v), 4);
        }
        RoadsByCows x = new RoadsByCows();
        x.sign(0x31323334);
        x.sign(0x35363738);
        CHECK.due("12345678", x.meadow(), 8);
        for (int cell = 0; cell < 8; cell++) {
            CHECK.due("12345678: cell " + cell, Check.cell(x, cell, 0), cell + 1);
        }
    }

    /** Promise 3: "true; false if it has not so many, or n is below 0". */
    private static void ends() {
        for (int length : new int[] {0, 4, 40, 76, 80}) {
            for (int n = -2; n <= length + 2; n++) {
                RoadsByCows x = new RoadsByCows();
                for (int i = 0; i < length; i += 4) {
                    x.sign(0x30303030);
                }
                boolean can = n >= 0 && n <= length;
                CHECK.due("end(" + n + ") of " + length, x.end(n), can);
                CHECK.due("signs", x.count(12), can ? n : length);
            }
        }
        RoadsByCows y = new RoadsByCows();
        y.sign(0x31323334);
        y.end(1);
        y.sign(0x35363738);
        y.end(3);
        CHECK.due("the first n alone: 156", y.meadow(), 3);
        CHECK.due("the first n alone: 156", Check.cell(y, 0, 0), 1);
        CHECK.due("the first n alone: 156", Check.cell(y, 1, 0), 5);
        CHECK.due("the first n alone: 156", Check.cell(y, 2, 0), 6);
    }

    /** Promise 4: "its end, if it ends too early, or a row is too short". */
    private static void meadowEndsTooEarly() {
        String full = "1234/5678/90#+";
        for (int n = 0; n <= full.length(); n++) {
            int got = Check.meadow(new RoadsByCows(), full.substring(0, n));
            // A first row may end anywhere; a later one only when it is full.
            int want = n >= 1 && n <= 4 ? n : n == 9 ? 8 : n == 14 ? 12 : -1 - n;
            CHECK.due("the first " + n + " of " + full, got, want);
        }
        CHECK.due("a row that is too short", Check.meadow(new RoadsByCows(), "1234/567/1234"), -1 - 8);
        CHECK.due("a last row that is too short", Check.meadow(new RoadsByCows(), "1234/5678/123"), -1 - 13);
        CHECK.due("a row of none", Check.meadow(new RoadsByCows(), "1//1"), -1 - 2);
    }

    /** Promise 4: "there are no herds, NOW is 0, nothing is SALT ..": the last of each that could stay. */
    private static void meadowAnew() {
        RoadsByCows x = Check.made("99999999/".repeat(8).substring(0, 71), "a15*;h15*;a85*;h85*;d45*;e55*");
        for (int i = 0; i < 5; i++) {
            x.salt(63 - i, 9);
            x.thistles(63 - i, 9);
        }
        x.hours(60);
        x.snow();
        x.keep(0);
        x.keep(1);
        CHECK.due("the same again", Check.meadow(x, "99999999/".repeat(8).substring(0, 71)), 64);
        CHECK.due("herds", x.count(4), 0);
        CHECK.due("those that lie", x.count(5), 0);
        CHECK.due("NOW", x.count(6), 0);
        CHECK.due("GRASS in all", x.count(9), 9 * 64);
        CHECK.due("what can be undone", x.count(10), 0);
        for (int cell : new int[] {0, 7, 56, 59, 60, 61, 62, 63}) {
            int[] due = {9, 0, 0, 0, -1, -1, 0, 0};
            for (int what = 0; what < 8; what++) {
                CHECK.due("cell(" + cell + ", " + what + ")", Check.cell(x, cell, what), due[what]);
            }
        }
        CHECK.due("ROAD", x.road(), 0);
        CHECK.due("no snow", x.thaw(), -2);
        CHECK.due("nothing can be undone", x.undo(), -1);
        CHECK.due("nothing is kept", x.again(0), false);
        CHECK.due("nothing is kept", x.again(1), false);
        CHECK.due("there is room for six", Check.herds(x, "a15;h15;a85;h85;d45;e55"), 6);
        for (int herd = 0; herd < 6; herd++) {
            CHECK.due("none is slow", Check.herd(x, herd, 2), 0);
        }
    }

    /** Promise 5: "an empty one: nothing". */
    private static void herdsOfNothing() {
        RoadsByCows x = Check.made("00", "a15");
        x.keep(0);
        x.keep(1);
        x.hour();
        x.hour();
        CHECK.due("none", Check.herds(x, ""), 0);
        CHECK.due("herds", x.count(4), 1);
        CHECK.due("what can be undone", x.count(10), 2);
        CHECK.due("what is kept", x.again(1), true);
        CHECK.due("what is kept", x.again(0), true);
    }

    /** Promise 5: "Nothing of it comes, if a LINE can't." */
    private static void herdsAllOrNone() {
        String[] lines = {"b15", "b16*", "a17", "a18", "a19"};
        for (int good = 1; good <= 5; good++) {
            StringBuilder words = new StringBuilder();
            for (int i = 0; i < good; i++) {
                words.append(lines[i]).append(';');
            }
            RoadsByCows x = Check.made("00", "");
            CHECK.due(words + "x", Check.herds(x, words + "x"), -1 - words.length());
            CHECK.due(words + "x: herds", x.count(4), 0);
            CHECK.due(words + "x: b1 is not trodden", Check.cell(x, 1, 4), -1);
            CHECK.due(words + "x: by none", Check.cell(x, 1, 5), -1);
        }
    }

    /** Promise 6: "an empty one: none". */
    private static void noRule() {
        // g*2+s*5-t*3-r at first: c1 has 4, a1 5, so it goes west; by the rule m it goes east.
        RoadsByCows x = Check.made("002", "b10");
        x.salt(0, 1);
        CHECK.due("at first none", Check.herd(x, 0, 4), 0);
        CHECK.due("m", Check.rule(x, "m"), 0);
        CHECK.due("m", Check.herd(x, 0, 4), 2);
        CHECK.due("an empty one", Check.rule(x, ""), 0);
        CHECK.due("none again", Check.herd(x, 0, 4), 0);
        // Each number of it: 2, 5, 3 and 1.
        x.salt(0, 0);
        x.salt(1, 1);
        CHECK.due("SALT 1 less ROAD is GRASS 2, its own first", Check.herd(x, 0, 4), 1);
        x.thistles(1, 1);
        CHECK.due("and THISTLES", Check.herd(x, 0, 4), 2);
        x.thistles(2, 1);
        x.salt(1, 1);
        CHECK.due("GRASS 2 less THISTLES is 1, as is its own", Check.herd(x, 0, 4), 1);
        x.thistles(1, 2);
        CHECK.due("its own is -2, c1 is 1", Check.herd(x, 0, 4), 2);
        x.thistles(2, 2);
        CHECK.due("c1 is -2 too, a1 is 0", Check.herd(x, 0, 4), 0);
    }

    /** Promise 6: what a refused one began is gone with it. */
    private static void ruleBegun() {
        RoadsByCows x = Check.made("00", "a10");
        for (String begun : new String[] {"-", "--", "---", "0-", "(-", "-(-(", "0<", "9*", "((((0-", "-".repeat(40)}) {
            CHECK.due("rule " + begun, Check.rule(x, begun), -1 - begun.length());
            CHECK.due("rule m", Check.rule(x, "m"), 0);
            CHECK.due("m behind " + begun, Check.herd(x, 0, 4), 1);
            CHECK.due("rule " + begun, Check.rule(x, begun), -1 - begun.length());
            CHECK.due("rule -m", Check.rule(x, "-m"), 0);
            CHECK.due("-m behind " + begun, Check.herd(x, 0, 4), 0);
        }
    }

    /** Promise 17: "60 signs". */
    private static void dayOfSixtySigns() {
        String acts = "h;".repeat(28);
        RoadsByCows x = Check.made("0", "");
        CHECK.due("59 signs", Check.day(x, "h;".repeat(29) + "h"), 30);
        CHECK.due("60 signs", Check.day(x, acts + "sa19"), 29);
        CHECK.due("the last is done", Check.cell(x, 0, 1), 9);
        CHECK.due("60 signs", Check.day(x, "h;".repeat(29) + "h2"), 30);
        CHECK.due("61 signs", Check.day(x, acts + "h;sa1"), -61);
        CHECK.due("61 signs", Check.day(x, "h;".repeat(30) + "h"), -61);
        CHECK.due("80 signs", Check.day(x, "h;".repeat(40)), -61);
        CHECK.due("60 signs, and an end too early", Check.day(x, "h;".repeat(30)), -61);
        CHECK.due("59 signs, and an end too early", Check.day(x, acts + "sa1"), -60);
        CHECK.due("a fault at the 60th, of 61", Check.day(x, "h;".repeat(29) + "h0;"), -60);
        CHECK.due("NOW", x.count(6), 30 + 28 + 31);
        CHECK.due("what can be undone", x.count(10), 3);
        // The most HOURS of a day: h9 twenty times.
        CHECK.due("180 HOURS", Check.day(x, "h9;".repeat(19) + "h9"), 20);
        CHECK.due("180 HOURS", x.count(6), 89 + 180);
        CHECK.due("as one", x.undo(), 3);
        CHECK.due("as one", x.count(6), 89);
    }

    /** Promise 17: "an empty one: nothing"; "h and perhaps a digit 1 .. 9: so many HOURS (1)". */
    private static void dayOfNothing() {
        RoadsByCows x = Check.made("00", "a10");
        Check.rule(x, "m");
        x.road();
        CHECK.due("none", Check.day(x, ""), 0);
        CHECK.dueRow("none", x, 0, 0);
        CHECK.due("none can be undone", x.count(10), 0);
        for (int n = 1; n <= 9; n++) {
            int now = x.count(6);
            CHECK.due("h" + n, Check.day(x, "h" + n), 1);
            CHECK.dueRow("h" + n, x, 0, n);
            CHECK.due("NOW", x.count(6), now + n);
        }
        CHECK.due("h", Check.day(x, "h"), 1);
        CHECK.dueRow("h", x, 0, 1);
        CHECK.due("NOW", x.count(6), 46);
    }

    /** Promise 17: "how often herds moved in HOURS": not what an ACT was answered, nor dogs. */
    private static void dayMoves() {
        RoadsByCows x = Check.made("000/00+", "b10");
        Check.rule(x, "m");
        x.salt(0, 9);
        x.thistles(1, 9);
        x.gate(0, 1);
        for (String acts : new String[] {"sa15;sa17", "tb15;tb17", "o0;o0", "c0;c0", "d0c1;d0b1"}) {
            CHECK.due(acts, Check.day(x, acts), 2);
            CHECK.dueRow(acts, x, 0, 0);
        }
        CHECK.due("with HOURS between", Check.day(x, "sa12;h;tb12;h2;o0"), 5);
        CHECK.dueRow("with HOURS between", x, 0, 3);
    }

    /** Promise 17: "till one can't be (it answers below 0; cells that are not there)". */
    private static void dayTillOneCannotBe() {
        // a1 GRASS, b1 a FENCE, c1 a GATE, a2 to c2 GRASS; a herd at a1.
        String[] stopping = {
            "sb11", "sc11", "sd11", "sh11", "sa31", "sa81", "tb11", "tc11", "td11", "ta31",
            "o1", "o6", "o9", "c1", "c9", "d1a1", "d6a2", "d9a2", "d0a1", "d0b1", "d0c1", "d0b2", "d0d1", "d0a3", "d0h8",
        };
        for (String act : stopping) {
            RoadsByCows x = Check.made("0#+/000", "a10");
            Check.rule(x, "0");
            CHECK.due(act, Check.day(x, act), 0);
            CHECK.dueRow(act, x, 1, 0);
            CHECK.due(act + ": none can be undone", x.count(10), 0);
            CHECK.due(act + " ahead of others", Check.day(x, act + ";h9;sa11"), 0);
            CHECK.dueRow(act + " ahead of others", x, 1, 0);
            CHECK.due(act + " ahead of others: NOW", x.count(6), 0);
            CHECK.due(act + " behind others", Check.day(x, "sa19;h3;" + act + ";h;ta11"), 2);
            CHECK.dueRow(act + " behind others", x, 1, 0);
            CHECK.due(act + " behind others: NOW", x.count(6), 3);
            CHECK.due(act + " behind others: THISTLES", Check.cell(x, 0, 2), 0);
            CHECK.due(act + " behind others: undone as one", x.undo(), 0);
            CHECK.due(act + " behind others: undone as one", Check.cell(x, 0, 1), 0);
        }
        String[] going = {"sa10", "sa19", "sc29", "ta10", "tc29", "o0", "c0", "d0a2"};
        for (String act : going) {
            RoadsByCows x = Check.made("0#+/000", "a10");
            CHECK.due(act, Check.day(x, act), 1);
            CHECK.dueRow(act, x, 0, 0);
            CHECK.due(act + ": it can be undone", x.undo(), 0);
        }
        // A herd in a GATE: it is neither shut nor opened.
        for (String act : new String[] {"c0", "o0"}) {
            RoadsByCows x = Check.made("0+", "a10");
            CHECK.due("a herd in a GATE, " + act, Check.day(x, "o0;d0b1;" + act), 2);
            CHECK.dueRow("a herd in a GATE, " + act, x, 1, 0);
        }
    }

    /** Promise 36: "1 to 12 pairs of a letter, a digit". */
    private static void brideOfOneToTwelve() {
        RoadsByCows x = Check.made("00", "a10;b10");
        CHECK.due("none", Check.bride(x, ""), -1);
        for (int pairs = 1; pairs <= 12; pairs++) {
            CHECK.due(pairs + " pairs", Check.bride(x, "a1b1a1b1a1b1a1b1a1b1a1b1".substring(0, 2 * pairs)), pairs - 1);
            CHECK.dueRow(pairs + " pairs", x, 1);
        }
        CHECK.due("13 pairs", Check.bride(x, "a1".repeat(13)), -25);
        CHECK.due("40 pairs", Check.bride(x, "a1".repeat(40)), -25);
        CHECK.due("a half too many", Check.bride(x, "a1".repeat(12) + "a"), -25);
        CHECK.due("a half too few", Check.bride(x, "a1".repeat(11) + "a"), -24);
        CHECK.due("a fault ahead of no ROAD", Check.bride(Check.made("00", ""), "a1a1a1c1"), -7);
        CHECK.due("no ROAD", Check.bride(Check.made("00", ""), "a1a1a1b1"), -100);
        RoadsByCows y = Check.made("000", "a10;b10");
        CHECK.due("no ROAD at the last", Check.bride(y, "a1b1a1b1a1b1a1b1a1b1a1c1"), -100);
        CHECK.due("no ROAD at the first", Check.bride(y, "c1b1"), -100);
        CHECK.due("no ROAD between", Check.bride(y, "b1c1b1"), -100);
    }

    /** Promise 36: "how many such ways (1000000 at most)": 10 ways a stage on 4 by 3 cells. */
    private static void brideWaysAtMost() {
        RoadsByCows x = Check.made("0000/0000/0000", "a10");
        for (int cell : new int[] {1, 2, 3, 11, 10, 9, 8, 16, 17, 18, 19}) {
            x.drive(0, cell);
        }
        long ways = 1;
        String seen = "a1";
        for (int stage = 1; stage <= 11; stage++) {
            seen += stage % 2 == 1 ? "d3" : "a1";
            ways = Math.min(1000000, ways * 10);
            CHECK.due(seen, Check.bride(x, seen), 5 * stage);
            CHECK.dueRow(seen, x, ways);
        }
        // d3 to b1 has 6 ways, d3 to b2 and back 3 each.
        CHECK.due("10^5 * 6", Check.bride(x, "a1d3a1d3a1d3b1"), 25 + 4);
        CHECK.dueRow("10^5 * 6", x, 600000);
        CHECK.due("10^5 * 3 * 3", Check.bride(x, "a1d3a1d3a1d3b2d3"), 25 + 3 + 3);
        CHECK.dueRow("10^5 * 3 * 3", x, 900000);
        CHECK.due("10^5 * 3 * 3 * 3", Check.bride(x, "a1d3a1d3a1d3b2d3b2"), 25 + 3 + 3 + 3);
        CHECK.dueRow("10^5 * 3 * 3 * 3 is above", x, 1000000);
    }

    /** Terms 2: "THE TEXT, which a call that reads it empties": good or not, and one too long for it. */
    private static void emptied() {
        String[] words = {"", "1", "12/34", "a15", "a1", "h", "g", "?", "z".repeat(80), "1".repeat(77), "h;".repeat(40), "g+".repeat(40)};
        for (String told : words) {
            for (int reader = 0; reader < 5; reader++) {
                RoadsByCows x = Check.made("00", "a10");
                Check.tell(x, told);
                switch (reader) {
                    case 0:
                        x.meadow();
                        break;
                    case 1:
                        x.herds();
                        break;
                    case 2:
                        x.rule();
                        break;
                    case 3:
                        x.day();
                        break;
                    default:
                        x.bride();
                        break;
                }
                CHECK.due("reader " + reader + " empties '" + told + "'", x.count(12), 0);
                CHECK.due("and none comes back", x.end(1), false);
            }
        }
    }
}
