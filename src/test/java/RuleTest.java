/** Promise 6: THE RULE is told, and how it is reckoned. */
public final class RuleTest {
    private static final Check CHECK = new Check();

    public static void main(String[] args) {
        bindings();
        facts();
        plainRule();
        faults();
        tooLong();
        refusedChangesNothing();
        CHECK.close("RuleTest");
    }

    /** A herd at a1 goes to b1 by the rule (E=v)*m if E is v there, and stays if it is not. */
    private static void reckons(RoadsByCows x, String expression, int v) {
        String value = v < 0 ? "-" + -v : "" + v;
        int wrong = v == 999 ? v - 1 : v + 1;
        String other = wrong < 0 ? "-" + -wrong : "" + wrong;
        CHECK.due("rule (" + expression + "=" + value + ")*m", Check.rule(x, "(" + expression + "=" + value + ")*m"), 0);
        CHECK.due(expression + " is " + v, Check.herd(x, 0, 4), 1);
        CHECK.due("rule", Check.rule(x, "(" + expression + "=" + other + ")*m"), 0);
        CHECK.due(expression + " is not " + wrong, Check.herd(x, 0, 4), 0);
    }

    private static void bindings() {
        RoadsByCows x = Check.made("00", "a10");
        reckons(x, "0", 0);
        reckons(x, "007", 7);
        reckons(x, "999", 999);
        reckons(x, "1+2*3", 7);
        reckons(x, "2*3+1", 7);
        reckons(x, "9-3-2", 4);
        reckons(x, "9-(3-2)", 8);
        reckons(x, "9-3+2", 8);
        reckons(x, "48/4/2", 6);
        reckons(x, "48/(4/2)", 24);
        reckons(x, "7/2*2", 6);
        reckons(x, "2*7/2", 7);
        reckons(x, "7/0", 0);
        reckons(x, "5+7/0*3", 5);
        reckons(x, "(0-7)/2", -3);
        reckons(x, "-7/2", -3);
        reckons(x, "7/-2", -3);
        reckons(x, "-3*-4", 12);
        reckons(x, "--5", 5);
        reckons(x, "---5", -5);
        reckons(x, "3--5", 8);
        reckons(x, "3---5", -2);
        reckons(x, "3+-5", -2);
        reckons(x, "-(2+3)*2", -10);
        reckons(x, "(1<2)", 1);
        reckons(x, "(2<1)", 0);
        reckons(x, "(2<2)", 0);
        reckons(x, "(2>1)", 1);
        reckons(x, "(2>2)", 0);
        reckons(x, "(1>2)", 0);
        reckons(x, "(3=3)", 1);
        reckons(x, "(3=4)", 0);
        reckons(x, "(1+1>1)", 1);
        reckons(x, "(0-1<0-2+2)", 1);
        reckons(x, "((1<2)=(3>2))", 1);
        reckons(x, "((5))", 5);
        reckons(x, "(999*999*999*999<0)", 1);
    }

    private static void facts() {
        RoadsByCows x = Check.made("07", "a14;a15");
        x.salt(1, 3);
        x.thistles(1, 6);
        reckons(x, "g", 7);
        reckons(x, "s", 3);
        reckons(x, "t", 6);
        reckons(x, "r", 0);
        reckons(x, "m", 1);
        reckons(x, "o", 0);
        reckons(x, "e", 4);
        reckons(x, "i", 0);
        reckons(x, "k", 0);
        Check.herds(x, "b10;b10");
        reckons(x, "o", 2);
        reckons(x, "r", 1);
        Check.rule(x, "0");
        x.set(1, 99);
        x.hours(13);
        Check.rule(x, "0");
        reckons(x, "k", 13);
        reckons(x, "g", 0);
        // The second herd has its own GREED and number.
        Check.rule(x, "(e=5)*m");
        CHECK.due("GREED of herd 1", Check.herd(x, 1, 4), 1);
        Check.rule(x, "(i=1)*m");
        CHECK.due("number of herd 1", Check.herd(x, 1, 4), 1);
        CHECK.due("number of herd 0", Check.herd(x, 0, 4), 0);
        // At its own cell a herd does not count itself.
        Check.rule(x, "(o=1)*(1-m)*2+m");
        CHECK.due("one other at its own cell", Check.herd(x, 0, 4), 0);
    }

    private static void plainRule() {
        // g*2+s*5-t*3-r: 3 GRASS (6) against 1 SALT (5); 2 THISTLES take 6; ROAD takes 1.
        RoadsByCows x = Check.made("003", "b10");
        x.salt(0, 1);
        CHECK.due("GRASS 3 before SALT 1", Check.herd(x, 0, 4), 2);
        x.salt(0, 2);
        CHECK.due("SALT 2 before GRASS 3", Check.herd(x, 0, 4), 0);
        x.thistles(0, 2);
        CHECK.due("THISTLES 2 on it", Check.herd(x, 0, 4), 2);
        x.salt(1, 1);
        x.thistles(2, 1);
        CHECK.due("its own cell has 5 less 1, the other 6 less 3", Check.herd(x, 0, 4), 1);
        x.thistles(2, 0);
        x.salt(1, 2);
        CHECK.due("its own cell has 10 less 1", Check.herd(x, 0, 4), 1);
        Check.rule(x, "m*(9-g)");
        CHECK.due("another rule", Check.herd(x, 0, 4), 0);
        CHECK.due("an empty text: none", Check.rule(x, ""), 0);
        CHECK.due("the plain one is there again", Check.herd(x, 0, 4), 1);
    }

    private static void due(String words, int want) {
        CHECK.due("rule '" + words + "'", Check.rule(new RoadsByCows(), words), want);
    }

    private static void faults() {
        due("z", -1);
        due("G", -1);
        due("+g", -1);
        due("*g", -1);
        due(")", -1);
        due("<", -1);
        due("g+", -3);
        due("g+*s", -3);
        due("-", -2);
        due("--", -3);
        due("g-", -3);
        due("g<", -3);
        due("g<<s", -3);
        due("g<=s", -3);
        due("g<s<t", -4);
        due("g=s>t", -4);
        due("g+1<s+2=3", -8);
        due("(g<s)<t", 0);
        due("g<(s<t)", 0);
        due("(g<s<t)", -5);
        due("(g<s)+1<t", 0);
        due("(g<s)+1<t=1", -10);
        due("(", -2);
        due("()", -2);
        due("(g", -3);
        due("g)", -2);
        due("(g))", -4);
        due("((((g))))", 0);
        due("(((((g", -5);
        due("((((g))))+((((s))))", 0);
        due("(((g+((g", -7);
        due("(((g))+((g)))", 0);
        due("1000", -4);
        due("100+1000", -8);
        due("12g", -3);
        due("g1", -2);
        due("gs", -2);
        due("g(s)", -2);
        due("(g)s", -4);
        due("(g)(s)", -4);
        due("1 ", -2);
        due("g_s", -2);
        due("g~s", -2);
        due("" + (char) 200, -1);
        due("g" + (char) 0 + "s", -2);
    }

    private static String repeated(String part, int times) {
        StringBuilder words = new StringBuilder();
        for (int i = 0; i < times; i++) {
            words.append(part);
        }
        return words.toString();
    }

    private static void tooLong() {
        String forty = repeated("g+", 19) + "12";
        due(forty, 0);
        due(forty.substring(0, 39), 0);
        due(forty + "3", -41);
        due(forty + "+", -41);
        due(forty + "z", -41);
        due(repeated("g+", 20), -41);
        due(repeated("g+", 20) + "g", -41);
        due(repeated("g+", 19) + "gz+g", -40);
        due(repeated("-", 39) + "g", 0);
        due(repeated("-", 40), -41);
        due(repeated("-", 40) + "g", -41);
        due(repeated("-", 80), -41);
        due("(" + repeated("g+", 19) + "g", -41);
        due("(" + repeated("g+", 19) + "g)", -41);
        due(repeated("1", 80), -4);
    }

    private static void refusedChangesNothing() {
        RoadsByCows x = Check.made("90", "a10");
        Check.rule(x, "0-g");
        CHECK.due("less GRASS pleases", Check.herd(x, 0, 4), 1);
        CHECK.due("a refused one", Check.rule(x, "g+"), -3);
        CHECK.due("as ahead of it", Check.herd(x, 0, 4), 1);
        CHECK.due("what a refused one left open is shut", Check.rule(x, "((g<s+"), -7);
        CHECK.due("a plain one behind it", Check.rule(x, "0-g<0"), 0);
        CHECK.due("GRASS is above 0 where it is", Check.herd(x, 0, 4), 0);
        CHECK.due("one that compares twice", Check.rule(x, "g<s<t"), -4);
        CHECK.due("one that compares once, behind it", Check.rule(x, "g<1"), 0);
        CHECK.due("GRASS is below 1 beside it", Check.herd(x, 0, 4), 1);
        CHECK.due("a refused long one", Check.rule(x, repeated("g+", 20)), -41);
        CHECK.due("as ahead of it", Check.herd(x, 0, 4), 1);
    }
}
