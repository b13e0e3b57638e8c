import java.util.Random;

/** Runs of random calls: SiegeInk answers each as Model does. The seed stands, so that each run is the same. */
public final class ModelTest {
    private static final Check CHECK = new Check("ModelTest");
    private static final int RUNS = 400;
    private static final int CALLS = 300;
    /** What no caller should give, but may. */
    private static final int[] WILD = {Integer.MIN_VALUE, Integer.MIN_VALUE + 1, -65536, -1000, -3, -2, -1, 0, 1, 6, 64, 100, 101,
        200, 201, 501, 999, 1000, 9999, 10000, 65536, 1 << 30, Integer.MAX_VALUE - 1, Integer.MAX_VALUE};

    private final Random random;
    private final SiegeInk x = new SiegeInk();
    private final Model m = new Model();
    private final int run;

    private ModelTest(int run) {
        this.run = run;
        random = new Random(1000003L * run + 7);
    }

    public static void main(String[] args) {
        int runs = args.length > 0 ? Integer.parseInt(args[0]) : RUNS;
        for (int run = 0; run < runs; run++) {
            new ModelTest(run).go();
        }
        CHECK.end();
    }

    private void go() {
        text();
        for (int i = 0; i < CALLS; i++) {
            call();
        }
    }

    private void due(String call, long got, long want) {
        CHECK.due("run " + run + ": " + call, got, want);
    }

    private void due(String call, boolean got, boolean want) {
        CHECK.due("run " + run + ": " + call, got, want);
    }

    private boolean chance(int ofHundred) {
        return random.nextInt(100) < ofHundred;
    }

    private int upTo(int most) {
        return random.nextInt(most + 1);
    }

    private void text() {
        String text = new TextMaker(random).text();
        if (chance(15)) {
            text = spoilt(text);
        }
        int padded = (text.length() + 19) / 20 * 20;
        StringBuilder bytes = new StringBuilder(text);
        while (bytes.length() < padded) {
            bytes.append(' ');
        }
        for (int i = 0; i < padded; i += 20) {
            int[] w = new int[5];
            for (int j = 0; j < 20; j++) {
                w[j / 4] = w[j / 4] << 8 | bytes.charAt(i + j);
            }
            due("feed", x.feed(w[0], w[1], w[2], w[3], w[4]), m.feed(w));
        }
        due("back", x.back(padded - text.length()), m.back(padded - text.length()));
        due("count(11)", x.count(11), m.count(11));
        due("read() of " + text, x.read(), m.read());
        due("place() of " + text, x.place(), m.place());
    }

    private String spoilt(String text) {
        StringBuilder s = new StringBuilder(text);
        int times = 1 + upTo(2);
        for (int i = 0; i < times && s.length() > 0; i++) {
            int at = random.nextInt(s.length());
            switch (random.nextInt(4)) {
                case 0: s.deleteCharAt(at); break;
                case 1: s.setCharAt(at, ";=+-*/<() azA0.#".charAt(random.nextInt(16))); break;
                case 2: s.insert(at, ";=+-*/<() azA0.#".charAt(random.nextInt(16))); break;
                default: s.setLength(at); break;
            }
        }
        return s.toString();
    }

    private int orWild(int n) {
        return chance(2) ? WILD[random.nextInt(WILD.length)] : n;
    }

    private int who() {
        int men = m.count(0);
        return chance(1) ? WILD[random.nextInt(WILD.length)] : chance(4) ? upTo(8) - 1 : men == 0 ? 0 : random.nextInt(men);
    }

    private int ofWhat() {
        int goods = m.count(1);
        return chance(1) ? WILD[random.nextInt(WILD.length)] : chance(4) ? upTo(7) - 1 : goods == 0 ? 0 : random.nextInt(goods);
    }

    private int few(int most) {
        return orWild(chance(5) ? upTo(3) - 2 : 1 + random.nextInt(most));
    }

    private void call() {
        int kind = random.nextInt(100);
        if (kind < 2) {
            text();
        } else if (kind < 40) {
            act(random.nextInt(13));
        } else if (kind < 70) {
            look(random.nextInt(7));
        } else {
            ask(random.nextInt(16));
        }
    }

    private void act(int kind) {
        int a = who();
        int b = who();
        int n;
        switch (kind) {
            case 0:
            case 1:
                int g = ofWhat();
                n = few(12);
                due("order(" + a + ", " + g + ", " + n + ")", x.order(a, g, n), m.order(a, g, n));
                break;
            case 2:
                n = few(40);
                due("letter(" + a + ", " + n + ")", x.letter(a, n), m.letter(a, n));
                break;
            case 3:
                n = few(60);
                due("lend(" + a + ", " + b + ", " + n + ")", x.lend(a, b, n), m.lend(a, b, n));
                break;
            case 4:
                n = few(60);
                due("repay(" + a + ", " + b + ", " + n + ")", x.repay(a, b, n), m.repay(a, b, n));
                break;
            case 5:
                due("blot(" + a + ", " + b + ")", x.blot(a, b), m.blot(a, b));
                break;
            case 6:
                n = few(30);
                due("water(" + a + ", " + n + ")", x.water(a, n), m.water(a, n));
                break;
            case 7:
                n = orWild(chance(5) ? upTo(105) - 2 : upTo(3));
                due("days(" + n + ")", x.days(n), m.days(n));
                break;
            case 8:
            case 9:
                due("undo()", x.undo(), m.undo());
                break;
            case 10:
                tape();
                break;
            case 11:
                n = orWild(upTo(4) - 1);
                due("hold(" + n + ")", x.hold(n), m.hold(n));
                break;
            default:
                n = orWild(upTo(4) - 1);
                if (chance(40)) {
                    due("restore(" + n + ")", x.restore(n), m.restore(n));
                }
                break;
        }
    }

    /** Bytes come and go; mostly all of them go, lest every text behind them has a FAULT. */
    private void tape() {
        int[] w = new int[5];
        for (int i = 0; i < 5; i++) {
            w[i] = chance(30) ? random.nextInt() : 0x20202020;
        }
        due("feed", x.feed(w[0], w[1], w[2], w[3], w[4]), m.feed(w));
        int n = orWild(upTo(25));
        due("back(" + n + ")", x.back(n), m.back(n));
        if (chance(80)) {
            n = m.count(11);
            due("back(" + n + ")", x.back(n), m.back(n));
        }
        due("count(11)", x.count(11), m.count(11));
    }

    private void look(int kind) {
        int a = who();
        int g = ofWhat();
        int what;
        switch (kind) {
            case 0:
            case 1:
                what = orWild(upTo(9) - 1);
                due("man(" + a + ", " + what + ")", x.man(a, what), m.man(a, what));
                break;
            case 2:
                what = orWild(upTo(5) - 1);
                due("good(" + g + ", " + what + ")", x.good(g, what), m.good(g, what));
                break;
            case 3:
                int b = who();
                due("debt(" + a + ", " + b + ")", x.debt(a, b), m.debt(a, b));
                break;
            case 4:
                int i = orWild(upTo(m.count(8) + 1) - 1);
                what = orWild(upTo(7) - 1);
                due("page(" + i + ", " + what + ")", x.page(i, what), m.page(i, what));
                break;
            case 5:
                int of = orWild(upTo(8) - 3);
                int by = orWild(upTo(7) - 2);
                due("led(" + by + ", " + of + ")", x.led(by, of), m.led(by, of));
                break;
            default:
                what = orWild(upTo(16) - 1);
                due("count(" + what + ")", x.count(what), m.count(what));
                break;
        }
    }

    private void ask(int kind) {
        int a = who();
        int b = who();
        int g = ofWhat();
        int n;
        int what = orWild(upTo(4) - 1);
        switch (kind) {
            case 0: due("over()", x.over(), m.over()); break;
            case 1: due("last()", x.last(), m.last()); break;
            case 2: due("lives(" + a + ")", x.lives(a), m.lives(a)); break;
            case 3:
                n = orWild(chance(5) ? upTo(203) - 1 : 1 + upTo(15));
                if (chance(20)) {
                    due("aid(" + a + ", " + b + ", " + n + ")", x.aid(a, b, n), m.aid(a, b, n));
                }
                break;
            case 4: due("rival(" + a + ", " + what + ")", x.rival(a, what), m.rival(a, what)); break;
            case 5:
                n = few(30);
                due("unwritten(" + a + ", " + n + ", " + b + ")", x.unwritten(a, n, b), m.unwritten(a, n, b));
                break;
            case 6:
                if (m.baskets() < 200000) {
                    due("best(" + a + ", " + what + ")", x.best(a, what), m.best(a, what));
                }
                break;
            case 7:
                if (m.baskets() < 200000) {
                    due("bestOf(" + a + ", " + g + ")", x.bestOf(a, g), m.bestOf(a, g));
                }
                break;
            case 8:
            case 9:
                n = orWild(chance(5) ? upTo(103) - 2 : upTo(99));
                due("settles(" + g + ", " + n + ", " + what + ")", x.settles(g, n, what), m.settles(g, n, what));
                break;
            case 10:
            case 11:
                // Mostly what is so, or nearly so: else there would seldom be a way.
                n = orWild(1 + upTo(m.count(0) == 0 ? 1 : (1 << m.count(0)) - 1));
                int strong = orWild(chance(60) && isOne(n) ? m.man(Integer.numberOfTrailingZeros(n), 2) : upTo(103) - 1);
                due("tell(" + n + ", " + strong + ")", x.tell(n, strong), m.tell(n, strong));
                break;
            case 12:
                if (chance(30)) {
                    due("forget()", x.forget(), m.forget());
                }
                break;
            default:
                n = orWild(chance(5) ? upTo(502) : 1 + upTo(60));
                int k = orWild(chance(5) ? upTo(22) - 1 : upTo(m.count(13)));
                int i = orWild(chance(50) ? -1 : upTo(60) - 2);
                due("watered(" + n + ", " + k + ", " + i + ")", x.watered(n, k, i), m.watered(n, k, i));
                break;
        }
    }

    private static boolean isOne(int set) {
        return Integer.bitCount(set) == 1;
    }
}
