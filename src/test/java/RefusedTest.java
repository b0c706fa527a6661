import java.util.ArrayList;
import java.util.List;
import java.util.function.ToLongFunction;

/** Of each refused call, that nothing has changed, and which refusal goes ahead; of each question, the same. */
public final class RefusedTest {
    private static final int BAD = ShoesAtLaw.BAD, STATE = ShoesAtLaw.STATE, FULL = ShoesAtLaw.FULL;
    private static final int[] SIDES = Bounds.beyond(0, 1);
    private static final Twins NEW = new Twins("new", ShoesAtLaw::new);
    private static final Twins SOME = new Twins("some", RefusedTest::some);
    private static final Twins ALL = new Twins("all", RefusedTest::all);

    public static void main(String[] args) {
        for (Twins twins : List.of(NEW, SOME, ALL)) {
            oneNumber(twins);
            sides(twins);
            goods(twins);
            odds(twins);
            soles(twins);
            ways(twins);
            judgesAndImages(twins);
        }
        fullText();
        fullSteps();
        fullSeen();
        noneUndone();
        noneKept();
        faults();
        questionsChangeNothing();
        badAheadOfFull();
        badAheadOfState();
        Due.end();
    }

    /** Some of each thing there may be, one image of the two, and a text that has a fault. */
    private static ShoesAtLaw some() {
        ShoesAtLaw x = Due.told("g5 3;g2 6;g4 4;p0 1 7 0;p1 2 0 5;h2;c3;");
        x.gives(0, 0);
        Due.walk(x, "0010");
        x.keep(1);
        x.gives(1, 1);
        Due.walk(x, "11");
        x.saw(0, 0, 1);
        x.saw(1, 2, 1);
        x.rate(4, 1);
        Due.type(x, "g7 8;g1");
        return x;
    }

    /** All of each thing that there may be. */
    private static ShoesAtLaw all() {
        ShoesAtLaw x = Due.told("g5 3;g2 6;g4 4;g9 9;g1 0;g0 1;p0 1 7 0;p1 2 0 5;p3 4 1 1;p4 5 2 3;h3;c2;");
        x.gives(5, 0);
        Due.walk(x, "01".repeat(26) + "00");
        x.keep(0);
        for (int g = 0; g < 6; g++) {
            x.gives(g, g % 2);
            x.steps(g / 2 % 2);
        }
        x.keep(1);
        for (int i = 0; i < 3; i++) {
            x.saw(0, i % 2, x.worn(0, i % 2));
            x.saw(1, i % 2, x.worn(1, i % 2));
        }
        x.rate(3, 0);
        Due.type(x, "g1 20;" + " ".repeat(180) + "h0;g2 3;c5;   ");
        return x;
    }

    // ---- BAD

    private static void oneNumber(Twins twins) {
        Due.under("Refused, and nothing changes: BAD");
        for (int a : Bounds.beyond(0, 255)) {
            twins.unchanged("type(" + a + ")", x -> x.type(a), BAD);
        }
        for (int a : Bounds.beyond(0, 4)) {
            twins.unchanged("now(" + a + ")", x -> x.now(a), BAD);
        }
        for (int a : Bounds.beyond(0, 3)) {
            twins.unchanged("fair(" + a + ")", x -> x.fair(a), BAD);
        }
        for (int a : Bounds.beyond(0, 9)) {
            twins.unchanged("sell(" + a + ")", x -> x.sell(a), BAD);
        }
        for (int a : Bounds.beyond(0, 59)) {
            twins.unchanged("foot(" + a + ")", x -> x.foot(a), BAD);
        }
        for (int a : Bounds.beyond(0, 2)) {
            twins.unchanged("judge(" + a + ")", x -> x.judge(a), BAD);
        }
        for (int a : Bounds.beyond(0, 5)) {
            twins.unchanged("count(" + a + ")", x -> x.count(a), BAD);
        }
    }

    private static void sides(Twins twins) {
        Due.under("Refused, and nothing changes: BAD");
        for (int a : SIDES) {
            twins.unchanged("steps(" + a + ")", x -> x.steps(a), BAD);
            twins.unchanged("envy(" + a + ")", x -> x.envy(a), BAD);
            twins.unchanged("adds(" + a + ")", x -> x.adds(a), BAD);
            twins.unchanged("values(" + a + ", 0)", x -> x.values(a, 0), BAD);
            twins.unchanged("cut(" + a + ", 0)", x -> x.cut(a, 0), BAD);
            twins.unchanged("cut(0, " + a + ")", x -> x.cut(0, a), BAD);
            twins.unchanged("byTurns(" + a + ", 0)", x -> x.byTurns(a, 0), BAD);
            twins.unchanged("lies(" + a + ", 0)", x -> x.lies(a, 0), BAD);
            twins.unchanged("lies(1, " + a + ")", x -> x.lies(1, a), BAD);
            twins.unchanged("wrong(" + a + ")", x -> x.wrong(a), BAD);
        }
        for (int a : Bounds.beyond(0, 2)) {
            twins.unchanged("byTurns(1, " + a + ")", x -> x.byTurns(1, a), BAD);
        }
    }

    private static void goods(Twins twins) {
        Due.under("Refused, and nothing changes: BAD");
        for (int a : Bounds.beyond(0, 5)) {
            twins.unchanged("good(" + a + ", 0)", x -> x.good(a, 0), BAD);
            twins.unchanged("gives(" + a + ", 1)", x -> x.gives(a, 1), BAD);
        }
        for (int a : Bounds.beyond(0, 2)) {
            twins.unchanged("good(0, " + a + ")", x -> x.good(0, a), BAD);
            twins.unchanged("gives(0, " + a + ")", x -> x.gives(0, a), BAD);
        }
        for (int a : Bounds.beyond(0, 63)) {
            twins.unchanged("values(0, " + a + ")", x -> x.values(0, a), BAD);
        }
    }

    private static void odds(Twins twins) {
        Due.under("Refused, and nothing changes: BAD");
        for (int a : Bounds.beyond(0, 10)) {
            twins.unchanged("odds(" + a + ", 1)", x -> x.odds(a, 1), BAD);
        }
        for (int a : SIDES) {
            twins.unchanged("odds(5, " + a + ")", x -> x.odds(5, a), BAD);
        }
    }

    private static void soles(Twins twins) {
        Due.under("Refused, and nothing changes: BAD");
        for (int a : SIDES) {
            twins.unchanged("worn(" + a + ", 0)", x -> x.worn(a, 0), BAD);
            twins.unchanged("saw(" + a + ", 0, 0)", x -> x.saw(a, 0, 0), BAD);
        }
        for (int a : Bounds.beyond(0, 5)) {
            twins.unchanged("worn(0, " + a + ")", x -> x.worn(0, a), BAD);
            twins.unchanged("saw(1, " + a + ", 0)", x -> x.saw(1, a, 0), BAD);
        }
        for (int a : Bounds.beyond(0, 60)) {
            twins.unchanged("saw(1, 0, " + a + ")", x -> x.saw(1, 0, a), BAD);
        }
    }

    private static void ways(Twins twins) {
        Due.under("Refused, and nothing changes: BAD");
        for (int a : Bounds.beyond(1, 99)) {
            twins.unchanged("soonest(" + a + ", 1, 1)", x -> x.soonest(a, 1, 1), BAD);
        }
        for (int a : Bounds.beyond(1, 9)) {
            twins.unchanged("soonest(1, " + a + ", 1)", x -> x.soonest(1, a, 1), BAD);
            twins.unchanged("soonest(1, 1, " + a + ")", x -> x.soonest(1, 1, a), BAD);
        }
    }

    private static void judgesAndImages(Twins twins) {
        Due.under("Refused, and nothing changes: BAD (NO of rate())");
        for (int a : Bounds.beyond(0, 5)) {
            twins.unchanged("rate(" + a + ", 0)", x -> x.rate(a, 0), ShoesAtLaw.NO);
        }
        for (int a : SIDES) {
            twins.unchanged("rate(5, " + a + ")", x -> x.rate(5, a), ShoesAtLaw.NO);
            twins.unchanged("keep(" + a + ")", x -> x.keep(a), BAD);
            twins.unchanged("back(" + a + ")", x -> x.back(a), BAD);
        }
    }

    // ---- FULL, STATE, FAULT

    private static void fullText() {
        Due.under("Refused, and nothing changes: FULL (200 letters at most)");
        for (int letter : new int[] {0, ' ', ';', 'g', '1', 255}) {
            ALL.unchanged("type(" + letter + ")", x -> x.type(letter), FULL);
        }
    }

    private static void fullSteps() {
        Due.under("Refused, and nothing changes: FULL (60 STEPS at most)");
        ALL.unchanged("steps(0)", x -> x.steps(0), FULL);
        ALL.unchanged("steps(1)", x -> x.steps(1), FULL);
    }

    private static void fullSeen() {
        Due.under("Refused, and nothing changes: FULL (SEEN, 6 at most)");
        for (int v = 0; v <= 60; v += 10) {
            int seen = v;
            ALL.unchanged("saw(0, 1, " + v + ")", x -> x.saw(0, 1, seen), FULL);
            ALL.unchanged("saw(1, 0, " + v + ")", x -> x.saw(1, 0, seen), FULL);
        }
    }

    private static void noneUndone() {
        Due.under("Refused, and nothing changes: STATE: none (can be UNDONE)");
        NEW.unchanged("undo()", ShoesAtLaw::undo, STATE);
        Twins undone = new Twins("undone", () -> {
            ShoesAtLaw x = some();
            for (int i = 0; i < 8; i++) {
                x.undo();
            }
            return x;
        });
        undone.unchanged("undo()", ShoesAtLaw::undo, STATE);
        Twins lost = new Twins("older ones are lost", () -> {
            ShoesAtLaw x = all();
            for (int i = 0; i < 10; i++) {
                x.undo();
            }
            return x;
        });
        lost.unchanged("undo()", ShoesAtLaw::undo, STATE);
        Twins back = new Twins("behind back()", () -> {
            ShoesAtLaw x = some();
            x.back(1);
            return x;
        });
        back.unchanged("undo()", ShoesAtLaw::undo, STATE);
    }

    private static void noneKept() {
        Due.under("Refused, and nothing changes: STATE: none was kept");
        NEW.unchanged("back(0)", x -> x.back(0), STATE);
        NEW.unchanged("back(1)", x -> x.back(1), STATE);
        SOME.unchanged("back(0)", x -> x.back(0), STATE);
    }

    private static void faults() {
        Due.under("-10 less FAULT: nothing changes (THE TEXT stays, too).");
        SOME.unchanged("suit()", ShoesAtLaw::suit, -17);
        String[] texts = {"x", "h0;c1;g9 9;x", "g1 1;g1 1;p0 0", "c", "h1;h1;", "g20 21;", "g1 1;".repeat(7), " ".repeat(199) + ";"};
        int[] places = {0, 11, 13, 1, 3, 4, 30, 199};
        for (int i = 0; i < texts.length; i++) {
            String text = texts[i];
            Twins faulty = new Twins("'" + text + "'", () -> {
                ShoesAtLaw x = some();
                x.clear();
                Due.type(x, text);
                return x;
            });
            faulty.unchanged("suit()", ShoesAtLaw::suit, -10 - places[i]);
        }
    }

    // ---- what changes nothing, though it is not refused

    private static void questionsChangeNothing() {
        Due.under("(Nothing is changed.)");
        List<ToLongFunction<ShoesAtLaw>> asked = new ArrayList<>();
        for (int i = 0; i < 6; i++) {
            int a = i;
            asked.add(x -> x.good(a, 2) + x.good(0, a));
            asked.add(x -> x.values(0, a) + x.values(1, a));
            asked.add(x -> x.now(a) + x.count(a));
            asked.add(x -> x.envy(a) + x.adds(a));
            asked.add(x -> x.fair(a));
            asked.add(x -> x.cut(0, a) + x.cut(1, a));
            asked.add(x -> x.byTurns(0, a) + x.byTurns(1, a));
            asked.add(x -> x.lies(0, a) + x.lies(1, a));
            asked.add(x -> x.sell(a) + x.sell(9));
            asked.add(x -> x.odds(2 * a, 0) + x.odds(2 * a, 1));
            asked.add(x -> x.foot(a) + x.foot(10 * a));
            asked.add(x -> x.worn(0, a) + x.worn(1, a));
            asked.add(x -> x.judge(a));
            asked.add(x -> x.wrong(a) + x.asTold());
            asked.add(x -> x.soonest(99 - a, 9 - a, 1 + a));
            asked.add(ShoesAtLaw::trace);
        }
        for (int i = 0; i < asked.size(); i++) {
            for (Twins twins : List.of(NEW, SOME, ALL)) {
                twins.unchanged("question " + i, asked.get(i));
            }
        }
    }

    // ---- the first of these

    private static void badAheadOfFull() {
        Due.under("the first of these: BAD (a number is not as told, or there is no such thing), STATE (as told), FULL");
        ShoesAtLaw x = all();
        Due.is("type(0)", x.type(0), FULL);
        Due.is("type(256)", x.type(256), BAD);
        Due.is("type(-1)", x.type(-1), BAD);
        Due.is("steps(1)", x.steps(1), FULL);
        Due.is("steps(2)", x.steps(2), BAD);
        Due.is("steps(-1)", x.steps(-1), BAD);
        Due.is("saw(1, 1, 60)", x.saw(1, 1, 60), FULL);
        Due.is("saw(2, 1, 60)", x.saw(2, 1, 60), BAD);
        Due.is("saw(1, 2, 60)", x.saw(1, 2, 60), BAD);
        Due.is("saw(1, 1, 61)", x.saw(1, 1, 61), BAD);
    }

    private static void badAheadOfState() {
        Due.under("the first of these: BAD (a number is not as told, or there is no such thing), STATE (as told), FULL");
        ShoesAtLaw x = new ShoesAtLaw();
        Due.is("back(0)", x.back(0), STATE);
        Due.is("back(1)", x.back(1), STATE);
        Due.is("back(2)", x.back(2), BAD);
        Due.is("back(-1)", x.back(-1), BAD);
    }
}
