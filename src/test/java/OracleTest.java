import java.util.ArrayList;
import java.util.List;
import java.util.Random;

/** Runs of calls, the same ones each time, on the class and on the document told a second time. */
public final class OracleTest {
    private static final int RUNS = 1500;
    private static final int CALLS = 512;
    private static final String[] NAMES = {"good", "values", "now", "gives", "steps", "undo", "envy",
        "fair", "cut", "byTurns", "lies", "sell", "adds", "odds", "foot", "worn", "judge", "saw", "forget", "wrong", "asTold",
        "soonest", "rate", "keep", "back", "count", "trace"};
    private static final String[] UNLIKED = {"suit", "clear", "type"};
    private static final int[] WILD = {Integer.MIN_VALUE, Integer.MIN_VALUE + 1, -1000000, -64, -10, -9, -2, -1, 21, 59, 60, 61, 63, 64,
        65, 100, 255, 256, 1 << 16, 1 << 30, Integer.MAX_VALUE - 1, Integer.MAX_VALUE};

    private final Random random;
    private final ShoesAtLaw x = new ShoesAtLaw();
    private final Oracle y = new Oracle();
    private final List<String> log = new ArrayList<>();
    private int calls = 0;

    private OracleTest(long seed) {
        random = new Random(seed);
    }

    public static void main(String[] args) {
        for (int run = 0; run < RUNS; run++) {
            new OracleTest(run).run(run);
        }
        everySmallSuit();
        everyWay();
        Due.end();
    }

    private void run(int seed) {
        // Some objects are told anew often, others once; each has calls it likes: so every state is come to.
        int tellOften = 1 + random.nextInt(seed % 2 == 0 ? 400 : 20);
        String[] liked = {anyName(), anyName(), anyName(), seed % 3 == 0 ? "steps" : anyName()};
        boolean same = tell(anyText());
        while (calls < CALLS) {
            if (random.nextInt(tellOften) == 0) {
                same = tell(random.nextInt(3) == 0 ? broken(anyText()) : anyText());
            } else if (random.nextInt(100) == 0) {
                same = call(UNLIKED[random.nextInt(UNLIKED.length)], argument(), 0, 0);
            } else {
                String name = random.nextBoolean() ? anyName() : liked[random.nextInt(liked.length)];
                same = call(name, argument(), argument(), argument());
            }
            if (!same) {
                System.out.println("run " + seed + ": " + String.join(" ", log));
                return;
            }
        }
    }

    private String anyName() {
        return NAMES[random.nextInt(NAMES.length)];
    }

    private int argument() {
        int kind = random.nextInt(40);
        if (kind == 0) {
            return WILD[random.nextInt(WILD.length)];
        }
        if (kind < 4) {
            return random.nextInt(110) - 3;
        }
        return kind < 12 ? random.nextInt(10) : random.nextInt(3);
    }

    private boolean tell(String text) {
        if (!call("clear", 0, 0, 0)) {
            return false;
        }
        for (int i = 0; i < text.length(); i++) {
            if (!call("type", text.charAt(i), 0, 0)) {
                return false;
            }
        }
        return call("suit", 0, 0, 0);
    }

    private String anyText() {
        int goods = random.nextInt(7);
        int most = random.nextBoolean() ? 20 : 4;
        StringBuilder text = new StringBuilder();
        for (int g = 0; g < goods; g++) {
            text.append("g").append(random.nextInt(most + 1)).append(' ').append(random.nextInt(most + 1)).append(";");
        }
        int pairs = goods < 2 ? 0 : random.nextInt(5);
        for (int p = 0; p < pairs; p++) {
            int g = random.nextInt(goods);
            int h = (g + 1 + random.nextInt(goods - 1)) % goods;
            text.append("p").append(g).append(' ').append(h).append(' ').append(random.nextInt(most + 1)).append(' ')
                .append(random.nextInt(most + 1)).append(';');
        }
        if (random.nextBoolean()) {
            text.append("h").append(random.nextInt(4)).append(";");
        }
        if (random.nextBoolean()) {
            text.insert(0, " c" + (1 + random.nextInt(6)) + " ; ");
        }
        return text.toString();
    }

    private String broken(String text) {
        String signs = "gphc;0123456789 ;gp \t\0x-" + (char) 255;
        StringBuilder broken = new StringBuilder(text);
        for (int times = 1 + random.nextInt(3); times > 0; times--) {
            int at = random.nextInt(broken.length() + 1);
            char sign = signs.charAt(random.nextInt(signs.length()));
            switch (at == broken.length() ? 0 : random.nextInt(4)) {
                case 0 -> broken.insert(at, sign);
                case 1 -> broken.deleteCharAt(at);
                case 2 -> broken.setCharAt(at, sign);
                default -> broken.setLength(at);
            }
        }
        return broken.toString();
    }

    private boolean call(String name, int a, int b, int c) {
        if (calls >= CALLS) {
            return true;
        }
        calls++;
        String told = name + "(" + a + ", " + b + ", " + c + ")";
        log.add(told);
        long got = ask(x, name, a, b, c);
        long want = ask(y, name, a, b, c);
        Due.is(told, got, want);
        return got == want;
    }

    private static long ask(ShoesAtLaw x, String name, int a, int b, int c) {
        return switch (name) {
            case "type" -> x.type(a);
            case "clear" -> x.clear();
            case "suit" -> x.suit();
            case "good" -> x.good(a, b);
            case "values" -> x.values(a, b);
            case "now" -> x.now(a);
            case "gives" -> x.gives(a, b);
            case "steps" -> x.steps(a);
            case "undo" -> x.undo();
            case "envy" -> x.envy(a);
            case "fair" -> x.fair(a);
            case "cut" -> x.cut(a, b);
            case "byTurns" -> x.byTurns(a, b);
            case "lies" -> x.lies(a, b);
            case "sell" -> x.sell(a);
            case "adds" -> x.adds(a);
            case "odds" -> x.odds(a, b);
            case "foot" -> x.foot(a);
            case "worn" -> x.worn(a, b);
            case "judge" -> x.judge(a);
            case "saw" -> x.saw(a, b, c);
            case "forget" -> x.forget();
            case "wrong" -> x.wrong(a);
            case "asTold" -> x.asTold();
            case "soonest" -> x.soonest(a, b, c);
            case "rate" -> x.rate(a, b);
            case "keep" -> x.keep(a);
            case "back" -> x.back(a);
            case "count" -> x.count(a);
            default -> x.trace();
        };
    }

    private static long ask(Oracle y, String name, int a, int b, int c) {
        return switch (name) {
            case "type" -> y.type(a);
            case "clear" -> y.clear();
            case "suit" -> y.suit();
            case "good" -> y.good(a, b);
            case "values" -> y.values(a, b);
            case "now" -> y.now(a);
            case "gives" -> y.gives(a, b);
            case "steps" -> y.steps(a);
            case "undo" -> y.undo();
            case "envy" -> y.envy(a);
            case "fair" -> y.fair(a);
            case "cut" -> y.cut(a, b);
            case "byTurns" -> y.byTurns(a, b);
            case "lies" -> y.lies(a, b);
            case "sell" -> y.sell(a);
            case "adds" -> y.adds(a);
            case "odds" -> y.odds(a, b);
            case "foot" -> y.foot(a);
            case "worn" -> y.worn(a, b);
            case "judge" -> y.judge(a);
            case "saw" -> y.saw(a, b, c);
            case "forget" -> y.forget();
            case "wrong" -> y.wrong(a);
            case "asTold" -> y.asTold();
            case "soonest" -> y.soonest(a, b, c);
            case "rate" -> y.rate(a, b);
            case "keep" -> y.keep(a);
            case "back" -> y.back(a);
            case "count" -> y.count(a);
            default -> y.trace();
        };
    }

    /** Every answer about partings, for many suits, each on an object of its own. */
    private static void everySmallSuit() {
        for (int seed = 0; seed < 400; seed++) {
            OracleTest t = new OracleTest(1000000L + seed);
            t.tell(t.anyText());
            for (int g = 0; g < 6; g++) {
                t.call("gives", g, t.random.nextInt(5) / 2, 0);
            }
            for (int what = 0; what < 4; what++) {
                t.call("fair", what, 0, 0);
                t.call("judge", what, 0, 0);
            }
            for (int side = 0; side < 2; side++) {
                for (int what = 0; what < 3; what++) {
                    t.call("cut", side, what, 0);
                    t.call("byTurns", side, what, 0);
                    t.call("lies", side, what, 0);
                }
                for (int kind = 0; kind < 6; kind++) {
                    t.call("rate", kind, side, 0);
                }
            }
            for (int p = 0; p <= 10; p++) {
                t.call("odds", p, 0, 0);
                t.call("odds", p, 1, 0);
                t.call("sell", p, 0, 0);
            }
        }
    }

    /** soonest() for every way there is. */
    private static void everyWay() {
        for (int hops = 0; hops < 4; hops++) {
            for (int a = 1; a <= 9; a++) {
                for (int b = a; b <= 9; b++) {
                    OracleTest t = new OracleTest(0);
                    t.tell("h" + hops + ";");
                    for (int n = 1; n <= 99; n++) {
                        t.call("soonest", n, a, b);
                        t.call("soonest", n, b, a);
                    }
                }
            }
        }
    }
}
