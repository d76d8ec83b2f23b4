/**
 * Which signs can stand where in a text, of all 256, for each reader (promises 4, 5, 6, 17, 36): behind
 * a beginning a sign ends a text that is good, or lets it go on (its end is then too early), or can't
 * stand there. So the last letter, digit and sign that is allowed and the first that is not are tried
 * on both sides.
 */
public final class SignsTest {
    private static final Check CHECK = new Check();
    private static final String DIGITS = "0123456789";
    private static final String ROWS = "12345678";
    private static final String COLUMNS = "abcdefgh";
    private static final String BLANK = "00000000/00000000/00000000/00000000/00000000/00000000/00000000/00000000";

    /** Reads a text on a new object. */
    private interface Reader {
        int read(RoadsByCows x, String words);
    }

    public static void main(String[] args) {
        meadows();
        herds();
        herdsOnLess();
        rules();
        rulesInside();
        days();
        daysOfDogsAndGates();
        brides();
        CHECK.close("SignsTest");
    }

    private static RoadsByCows made(String meadow) {
        return Check.made(meadow, "");
    }

    /** Signs of 'good' behind 'begun' make a good text, those of 'more' one that ends too early. */
    private static void stand(String meadow, Reader reader, String begun, String good, String more) {
        int p = begun.length();
        for (char sign = 0; sign < 256; sign++) {
            RoadsByCows x = meadow.isEmpty() ? new RoadsByCows() : made(meadow);
            int got = reader.read(x, begun + sign);
            String what = "'" + begun + "' and the sign " + (int) sign;
            if (good.indexOf(sign) >= 0) {
                CHECK.due(what + " is good", got >= 0 || got == -100, true);
            } else {
                CHECK.due(what, got, more.indexOf(sign) >= 0 ? -1 - (p + 1) : -1 - p);
            }
        }
    }

    private static void meadows() {
        Reader reader = Check::meadow;
        String cells = DIGITS + "#+";
        stand("", reader, "", cells, "");
        stand("", reader, "1", cells, "/");
        stand("", reader, "1234567", cells, "/");
        // The first row has eight: a ninth can't stand.
        stand("", reader, "12345678", "", "/");
        // Six GATES: a seventh can't stand, in the same row or in the next.
        stand("", reader, "+++++", cells, "/");
        stand("", reader, "++++++", DIGITS + "#", "/");
        stand("", reader, "+++/++", cells, "");
        stand("", reader, "+++/+++/", "", DIGITS + "#");
        // Each row has as many as the first: no fewer, no more.
        stand("", reader, "1/", cells, "");
        stand("", reader, "12/", "", cells);
        stand("", reader, "12/3", cells, "");
        stand("", reader, "12/34", "", "/");
        stand("", reader, "12/34/5", cells, "");
        // Eight rows: the / ahead of a ninth can't stand.
        stand("", reader, "1/1/1/1/1/1/1", "", "/");
        stand("", reader, "1/1/1/1/1/1/1/1", "", "");
        stand("", reader, "12/12/12/12/12/12/12/1", cells, "");
        stand("", reader, BLANK, "", "");
    }

    private static void herds() {
        Reader reader = Check::herds;
        stand(BLANK, reader, "", "", COLUMNS);
        stand(BLANK, reader, "a", "", ROWS);
        stand(BLANK, reader, "h", "", ROWS);
        stand(BLANK, reader, "a1", DIGITS, "");
        stand(BLANK, reader, "h8", DIGITS, "");
        stand(BLANK, reader, "a15", "*", ";");
        stand(BLANK, reader, "a15*", "", ";");
        stand(BLANK, reader, "a15;", "", COLUMNS);
        stand(BLANK, reader, "a15*;h", "", ROWS);
        stand(BLANK, reader, "a15;a15;a15;a15;a15;", "", COLUMNS);
        // There is no room for a seventh, however its LINE begins.
        stand(BLANK, reader, "a15;a15;a15;a15;a15;a15", "*", ";");
        stand(BLANK, reader, "a15;a15;a15;a15;a15;a15;", "", "");
    }

    private static void herdsOnLess() {
        Reader reader = Check::herds;
        stand("123/456", reader, "", "", "abc");
        stand("123/456", reader, "c", "", "12");
        stand("1", reader, "", "", "a");
        stand("1", reader, "a", "", "1");
        // A FENCE and a GATE, at the digit.
        stand("1#+/+2#/#+3", reader, "a", "", "1");
        stand("1#+/+2#/#+3", reader, "b", "", "2");
        stand("1#+/+2#/#+3", reader, "c", "", "3");
        stand("#", reader, "a", "", "");
        // No cells: no letter can stand.
        stand("", reader, "", "", "");
    }

    private static final String BINDINGS = "<>=+-*/";
    private static final String THINGS = DIGITS + "gstrmoeik";

    private static void rules() {
        Reader reader = Check::rule;
        stand("", reader, "", THINGS, "-(");
        stand("", reader, "-", THINGS, "-(");
        stand("", reader, "g", "", BINDINGS);
        stand("", reader, "g+", THINGS, "-(");
        stand("", reader, "g-", THINGS, "-(");
        stand("", reader, "g*", THINGS, "-(");
        stand("", reader, "g/", THINGS, "-(");
        stand("", reader, "g<", THINGS, "-(");
        // A NUMBER has one to three digits.
        stand("", reader, "1", DIGITS, BINDINGS);
        stand("", reader, "12", DIGITS, BINDINGS);
        stand("", reader, "123", "", BINDINGS);
        stand("", reader, "000", "", BINDINGS);
        stand("", reader, "g+99", DIGITS, BINDINGS);
        stand("", reader, "g+999", "", BINDINGS);
        // < > = not one behind the other.
        stand("", reader, "g<s", "", "+-*/");
        stand("", reader, "g>s", "", "+-*/");
        stand("", reader, "g=s", "", "+-*/");
        stand("", reader, "g=s+t", "", "+-*/");
        stand("", reader, "1=2", DIGITS, "+-*/");
        stand("", reader, "(g<s)", "", BINDINGS);
        stand("", reader, "g<(s)", "", "+-*/");
    }

    private static void rulesInside() {
        Reader reader = Check::rule;
        stand("", reader, "(", "", THINGS + "-(");
        stand("", reader, "(g", ")", BINDINGS);
        stand("", reader, "(g<s", ")", "+-*/");
        stand("", reader, "g<(s", ")", BINDINGS);
        stand("", reader, "g<(s<t", ")", "+-*/");
        stand("", reader, "(g)", "", BINDINGS);
        // Four in one another, and no fifth.
        stand("", reader, "(((", "", THINGS + "-(");
        stand("", reader, "((((", "", THINGS + "-");
        stand("", reader, "((((g", "", BINDINGS + ")");
        stand("", reader, "((((g)))", ")", BINDINGS);
        stand("", reader, "((((g))))", "", BINDINGS);
        stand("", reader, "(((g+", "", THINGS + "-(");
        stand("", reader, "((((g)+", "", THINGS + "-(");
        stand("", reader, "-(-(-(-(-", "", THINGS + "-");
        stand("", reader, "((((g))))+((((", "", THINGS + "-");
        // 40 signs: the last may be any that ends it; nothing can stand behind it.
        String begun = "g+g+g+g+g+g+g+g+g+g+g+g+g+g+g+g+g+g+g+";
        stand("", reader, begun, THINGS, "-(");
        stand("", reader, begun + "g", "", BINDINGS);
        stand("", reader, begun + "-", THINGS, "-(");
        stand("", reader, begun + "1", DIGITS, BINDINGS);
        stand("", reader, begun + "12", "", "");
        stand("", reader, begun + "g-", "", "");
        stand("", reader, begun + "((", "", "");
    }

    private static void days() {
        Reader reader = Check::day;
        stand(BLANK, reader, "", "h", "stocd");
        stand(BLANK, reader, "h", "123456789", ";");
        stand(BLANK, reader, "h9", "", ";");
        stand(BLANK, reader, "h;", "h", "stocd");
        for (String kind : new String[] {"s", "t", "h;s", "h9;t"}) {
            stand(BLANK, reader, kind, "", COLUMNS);
            stand(BLANK, reader, kind + "a", "", ROWS);
            stand(BLANK, reader, kind + "h", "", ROWS);
            stand(BLANK, reader, kind + "h8", DIGITS, "");
            stand(BLANK, reader, kind + "a15", "", ";");
        }
        // Columns and rows that are not there can stand: the ACT can't be done then.
        stand("1", reader, "s", "", COLUMNS);
        stand("1", reader, "sh", "", ROWS);
        stand("", reader, "sh8", DIGITS, "");
    }

    private static void daysOfDogsAndGates() {
        Reader reader = Check::day;
        for (String kind : new String[] {"o", "c", "h;o"}) {
            stand(BLANK, reader, kind, DIGITS, "");
            stand(BLANK, reader, kind + "0", "", ";");
        }
        stand(BLANK, reader, "d", "", DIGITS);
        stand(BLANK, reader, "d9", "", COLUMNS);
        stand(BLANK, reader, "d0a", ROWS, "");
        stand(BLANK, reader, "d0h", ROWS, "");
        stand(BLANK, reader, "d0a1", "", ";");
        // 60 signs: nothing can stand behind them.
        String begun = "h;h;h;h;h;h;h;h;h;h;h;h;h;h;h;h;h;h;h;h;h;h;h;h;h;h;h;h;h;";
        stand(BLANK, reader, begun, "h", "stocd");
        stand(BLANK, reader, begun + "h", "123456789", ";");
        stand(BLANK, reader, begun + "h9", "", "");
        stand(BLANK, reader, begun + "h;", "", "");
        stand(BLANK, reader, begun + "sa", "", "");
        stand(BLANK, reader, begun + "d0", "", "");
        stand(BLANK, reader, begun + "o0", "", "");
    }

    private static void brides() {
        Reader reader = Check::bride;
        stand(BLANK, reader, "", "", COLUMNS);
        stand(BLANK, reader, "a", ROWS, "");
        stand(BLANK, reader, "h", ROWS, "");
        stand(BLANK, reader, "h8", "", COLUMNS);
        stand(BLANK, reader, "h8a", ROWS, "");
        stand("123/456", reader, "", "", "abc");
        stand("123/456", reader, "c", "12", "");
        stand("123/456", reader, "a1", "", "abc");
        // A FENCE and a GATE are cells that are there.
        stand("#+", reader, "a", "1", "");
        stand("#+", reader, "b", "1", "");
        stand("", reader, "", "", "");
        // Twelve pairs: nothing can stand behind them.
        String eleven = "a1a1a1a1a1a1a1a1a1a1a1";
        stand(BLANK, reader, eleven, "", COLUMNS);
        stand(BLANK, reader, eleven + "a", ROWS, "");
        stand(BLANK, reader, eleven + "a1", "", "");
    }
}
