import java.util.ArrayList;
import java.util.List;
import java.util.function.Supplier;
import java.util.function.ToLongFunction;

/** Two objects brought to one state by the same calls: one is asked something more, then both must answer alike to all. */
final class Twins {
    /** Ways to look at an object, each by so few calls that it stays within its 512. */
    private enum Look { NOW, PARTINGS, STEPS, DEEDS, IMAGES, TEXT, SEEN }

    private final String state;
    private final Supplier<ShoesAtLaw> maker;
    private final List<List<Long>> untouched = new ArrayList<>();

    Twins(String state, Supplier<ShoesAtLaw> maker) {
        this.state = state;
        this.maker = maker;
        for (Look look : Look.values()) {
            untouched.add(seen(maker.get(), look));
        }
    }

    /** The call has that answer, and nothing is another one behind it. */
    void unchanged(String call, ToLongFunction<ShoesAtLaw> asked, long due) {
        Due.is(state + ": " + call, asked.applyAsLong(maker.get()), due);
        unchanged(call, asked);
    }

    /** Nothing is another one behind the call. */
    void unchanged(String call, ToLongFunction<ShoesAtLaw> asked) {
        for (Look look : Look.values()) {
            ShoesAtLaw x = maker.get();
            asked.applyAsLong(x);
            List<Long> now = seen(x, look);
            List<Long> before = untouched.get(look.ordinal());
            Due.is(state + ": behind " + call + " something is another one, by look " + look + ", " + before + " is " + now,
                now.equals(before) ? 0 : 1, 0);
        }
    }

    private static List<Long> seen(ShoesAtLaw x, Look look) {
        List<Long> answers = new ArrayList<>();
        switch (look) {
            case NOW -> now(x, answers);
            case PARTINGS -> partings(x, answers);
            case STEPS -> steps(x, answers);
            case DEEDS -> deeds(x, answers);
            case IMAGES -> images(x, answers);
            case TEXT -> text(x, answers);
            default -> soles(x, answers);
        }
        return answers;
    }

    private static void now(ShoesAtLaw x, List<Long> answers) {
        for (int i = 0; i < 7; i++) {
            answers.add((long) x.good(i, 0));
            answers.add((long) x.good(i, 1));
            answers.add((long) x.good(i, 2));
            answers.add((long) x.values(0, 1 << i));
            answers.add((long) x.values(1, (1 << i) - 1));
            answers.add((long) x.now(i));
            answers.add((long) x.count(i));
        }
        answers.add(x.trace());
    }

    private static void partings(ShoesAtLaw x, List<Long> answers) {
        for (int what = 0; what < 4; what++) {
            answers.add((long) x.fair(what));
            for (int side = 0; side < 2; side++) {
                answers.add((long) x.cut(side, what));
                answers.add((long) x.byTurns(side, what));
                answers.add((long) x.lies(side, what));
                answers.add((long) x.odds(3 + side, what));
            }
        }
        for (int side = 0; side < 2; side++) {
            answers.add((long) x.adds(side));
            answers.add((long) x.envy(side));
        }
        for (int c = 0; c < 10; c++) {
            answers.add((long) x.sell(c));
        }
    }

    private static void steps(ShoesAtLaw x, List<Long> answers) {
        for (int i = 0; i < 60; i++) {
            answers.add((long) x.foot(i));
        }
        for (int cell = 0; cell < 6; cell++) {
            answers.add((long) x.worn(0, cell));
            answers.add((long) x.worn(1, cell));
            answers.add((long) x.judge(cell));
        }
        answers.add((long) x.soonest(99, 5, 3));
    }

    private static void deeds(ShoesAtLaw x, List<Long> answers) {
        for (int i = 0; i < 11; i++) {
            answers.add((long) x.undo());
            answers.add((long) x.now(0));
            answers.add((long) x.now(1));
            answers.add((long) x.now(3));
        }
    }

    private static void images(ShoesAtLaw x, List<Long> answers) {
        for (int image = 0; image < 2; image++) {
            answers.add((long) x.back(image));
            for (int what = 0; what < 4; what++) {
                answers.add((long) x.now(what));
                answers.add((long) x.judge(what));
            }
            for (int i = 0; i < 60; i += 3) {
                answers.add((long) x.foot(i));
            }
        }
    }

    private static void text(ShoesAtLaw x, List<Long> answers) {
        answers.add((long) x.suit());
        // A text with a fault is told by what would have mended it.
        Due.type(x, " 1;");
        answers.add((long) x.suit());
        answers.add((long) x.clear());
        for (int what = 0; what < 6; what++) {
            answers.add((long) x.count(what));
            answers.add((long) x.good(what, 0));
            answers.add((long) x.good(what, 1));
            answers.add((long) x.now(what));
        }
    }

    /** What was seen is told by whether it is so, as it is and behind a step and another one. */
    private static void soles(ShoesAtLaw x, List<Long> answers) {
        for (int i = 0; i < 6; i++) {
            answers.add((long) x.asTold());
            answers.add((long) x.wrong(0));
            answers.add((long) x.wrong(1));
            x.undo();
        }
        answers.add((long) x.forget());
        answers.add((long) x.asTold());
    }
}
