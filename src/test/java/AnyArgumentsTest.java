import java.util.NoSuchElementException;
import java.util.Random;

/**
 * LANGUAGE.md, rules 6 and 7: whatever a call is handed, in whatever state, nothing but the
 * document's NoSuchElementException leaves it, and only cell(), herd() and row() throw that; every
 * answer is one that the document knows. Runs are drawn by fixed seeds.
 */
public final class AnyArgumentsTest {
    private static final Check CHECK = new Check();
    private static final int[] NUMBERS = {
        Integer.MIN_VALUE, Integer.MIN_VALUE + 1, -65536, -101, -64, -9, -3, -2, -1, 0, 0, 1, 1, 2, 3, 5, 6, 7, 8, 9, 10, 11, 12, 13,
        17, 20, 21, 40, 41, 59, 60, 61, 63, 64, 65, 99, 100, 101, 255, 256, 65536, Integer.MAX_VALUE - 1, Integer.MAX_VALUE,
    };
    private static final String[] TEXTS = {
        "", "0", "123/4+6/7#9", "++++++", "99999999/9+999999/99#99999/99999999/99999999/99999999/99999+99/99999999", "a15", "a15;b24*",
        "b30*;c32;a10", "m", "g*2+s*5-t*3-r", "m*(1-r)-t", "k/(k-3)*s", "-(-(-(-g)))", "h;h9;sa19", "d0b1;o0;tc35;c0", "a1b1b2", "a1",
    };

    private final Random random;
    private final RoadsByCows x = new RoadsByCows();

    private AnyArgumentsTest(long seed) {
        random = new Random(seed);
    }

    public static void main(String[] args) {
        int from = args.length > 0 ? Integer.parseInt(args[0]) : 0;
        int runs = args.length > 1 ? Integer.parseInt(args[1]) : 150;
        for (int seed = from; seed < from + runs; seed++) {
            new AnyArgumentsTest(seed).go(seed);
        }
        CHECK.close("AnyArgumentsTest");
    }

    private void go(int seed) {
        int call = 0;
        try {
            for (int i = 0; i < 200; i++) {
                call = random.nextInt(46);
                CHECK.due("seed " + seed + ", call " + call, isKnown(call, asked(call)), true);
            }
        } catch (RuntimeException | Error e) {
            CHECK.due("seed " + seed + ": call " + call + " throws " + e, 1, 0);
        }
    }

    private int any() {
        return random.nextInt(6) == 0 ? random.nextInt() : NUMBERS[random.nextInt(NUMBERS.length)];
    }

    /** What no call answers: below its least, or above what there is room for. */
    private static boolean isKnown(int call, long answer) {
        boolean reads = call >= 2 && call <= 4 || call == 16 || call == 35;
        return answer >= (reads ? -100 : -3) && answer <= 1000000 || call == 43 || answer == Check.THROWN;
    }

    private long asked(int call) {
        if (call == 44 || call == 45) {
            tellAny();
            return 0;
        }
        return call < 17 ? done(call) : call < 33 ? told(call) : kept(call);
    }

    private void tellAny() {
        if (random.nextInt(4) > 0) {
            Check.tell(x, TEXTS[random.nextInt(TEXTS.length)]);
            return;
        }
        StringBuilder words = new StringBuilder(TEXTS[random.nextInt(TEXTS.length)]);
        for (int i = random.nextInt(6); i > 0; i--) {
            words.insert(random.nextInt(words.length() + 1), (char) random.nextInt(256));
        }
        Check.tell(x, words.substring(0, Math.min(80, words.length())));
    }

    private long done(int call) {
        switch (call) {
            case 0:
                return x.sign(any());
            case 1:
                return x.end(any()) ? 1 : 0;
            case 2:
                return x.meadow();
            case 3:
                return x.herds();
            case 4:
                return x.rule();
            case 5:
                return thrown(() -> x.cell(any(), any()));
            case 6:
                return thrown(() -> x.herd(any(), any()));
            case 7:
                return x.set(any(), any());
            case 8:
                return x.sheet(any(), any(), any(), any());
            case 9:
                return x.salt(any(), any());
            case 10:
                return x.thistles(any(), any());
            case 11:
                return x.gate(any(), any());
            case 12:
                return x.drive(any(), any());
            case 13:
                return x.hour();
            case 14:
                return x.hours(any());
            case 15:
                return x.undo();
            default:
                return x.day();
        }
    }

    private long told(int call) {
        switch (call) {
            case 17:
                return x.road();
            case 18:
                return x.squares();
            case 19:
                return x.cart(any(), any());
            case 20:
                return x.joined(any());
            case 21:
                return x.owners();
            case 22:
                return x.least();
            case 23:
                return x.furthest(any());
            case 24:
                return x.where(any(), any());
            case 25:
                return x.roadin(any());
            case 26:
                return x.market(any(), any());
            case 27:
                return x.trodden(any());
            case 28:
                return x.meets();
            case 29:
                return x.round(any());
            case 30:
                return x.lure(any(), any());
            case 31:
                return x.hedge(any(), any());
            default:
                return x.gates(any(), any(), any());
        }
    }

    private long kept(int call) {
        switch (call) {
            case 33:
                return x.ways(any(), any(), any());
            case 34:
                return x.lost(any(), any(), any());
            case 35:
                return x.bride();
            case 36:
                return x.letter(any());
            case 37:
                return x.snow();
            case 38:
                return x.thaw();
            case 39:
                return x.season(any(), any());
            case 40:
                return x.keep(any()) ? 1 : 0;
            case 41:
                return x.again(any()) ? 1 : 0;
            case 42:
                return x.count(any());
            default:
                return thrown(() -> x.row(any()));
        }
    }

    private interface Throwing {
        long answer();
    }

    private static long thrown(Throwing call) {
        try {
            return call.answer();
        } catch (NoSuchElementException e) {
            return Check.THROWN;
        }
    }
}
