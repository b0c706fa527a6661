/** Promises 27 to 31: judges by kinds, images, the trace. */
public final class KindsTest {
    public static void main(String[] args) {
        ratesAndTrace();
        badRatesLeaveNoTrace();
        traceGoesOn();
        images();
        imagesKeepNothingElse();
        imagesBad();
        Due.end();
    }

    private static ShoesAtLaw court() {
        ShoesAtLaw x = Due.told("g5 3;g2 6;g4 4;g9 9;p0 1 7 0;p1 2 0 5;");
        x.gives(0, 0);
        x.gives(1, 1);
        x.gives(2, 1);
        Due.walk(x, "0010");
        return x;
    }

    private static void ratesAndTrace() {
        ShoesAtLaw x = court();
        // LEFT has 5, envies 1, made 3 steps; RIGHT has 15, envies nothing, made 1; one good is on the table.
        int[] left = {5, 8, 4, 16, 4, 6};
        int[] right = {15, 16, 15, 32, 16, 16};
        long[] traced = {1, 11, 101, 1011, 10101, 100001};
        long trace = 0;
        for (int kind = 0; kind < 6; kind++) {
            Due.is("rate(" + kind + ", 0)", x.rate(kind, 0), left[kind]);
            trace += traced[kind];
            Due.is("trace()", x.trace(), trace);
            Due.is("rate(" + kind + ", 1)", x.rate(kind, 1), right[kind]);
            trace += traced[kind];
            Due.is("trace()", x.trace(), trace);
        }
        ShoesAtLaw y = Due.told("g3 9;");
        y.gives(0, 0);
        Due.is("below 0: rate(2, 1)", y.rate(2, 1), -9);
        Due.is("below 0: rate(4, 1)", y.rate(4, 1), -8);
        y.gives(0, 2);
        Due.is("rate(5, 1)", y.rate(5, 1), 1);
        Due.is("no goods: rate(5, 1)", new ShoesAtLaw().rate(5, 1), 0);
    }

    private static void badRatesLeaveNoTrace() {
        ShoesAtLaw x = court();
        int[][] ill = {{-1, 0}, {6, 0}, {0, -1}, {0, 2}, {5, 2}};
        for (int[] i : ill) {
            Due.is("rate(" + i[0] + ", " + i[1] + ")", x.rate(i[0], i[1]), ShoesAtLaw.NO);
        }
        Due.is("trace()", x.trace(), 0);
        x.envy(0);
        x.fair(1);
        Due.is("only rate() leaves a trace", x.trace(), 0);
    }

    private static void traceGoesOn() {
        ShoesAtLaw x = court();
        x.keep(0);
        x.rate(3, 0);
        x.undo();
        Due.is("behind undo()", x.trace(), 1011);
        x.back(0);
        Due.is("behind back()", x.trace(), 1011);
        Due.retell(x, "g1 1;");
        Due.is("behind suit()", x.trace(), 1011);
        x.rate(5, 0);
        Due.is("and on", x.trace(), 101012);
        for (int i = 0; i < 300; i++) {
            x.rate(5, 1);
        }
        Due.is("far on", x.trace(), 101012L + 300L * 100001L);
    }

    private static void images() {
        ShoesAtLaw x = court();
        Due.is("back(1) ahead of keep(1)", x.back(1), ShoesAtLaw.STATE);
        Due.is("a refused back() loses nothing", x.now(4), 7);
        Due.is("keep(1)", x.keep(1), 4);
        Due.is("back(0) is not kept", x.back(0), ShoesAtLaw.STATE);
        Due.is("keep() loses nothing", x.now(4), 7);
        x.gives(3, 1);
        x.gives(0, 2);
        x.undo();
        Due.walk(x, "11");
        Due.is("keep(0)", x.keep(0), 6);
        Due.is("back(1)", x.back(1), 4);
        Due.is("now(0)", x.now(0), 1);
        Due.is("now(1)", x.now(1), 6);
        Due.is("now(2)", x.now(2), 8);
        Due.is("now(3)", x.now(3), 4);
        Due.is("foot(2)", x.foot(2), 1);
        Due.is("now(4)", x.now(4), 0);
        Due.is("undo()", x.undo(), ShoesAtLaw.STATE);
        Due.is("steps(1) on from there", x.steps(1), 1);
        Due.is("back(0)", x.back(0), 6);
        Due.is("now(1)", x.now(1), 14);
        Due.is("foot(4)", x.foot(4), 1);
        Due.is("worn(1, 2)", x.worn(1, 2), 1);
        Due.is("an image stays: back(1)", x.back(1), 4);
        Due.is("undo() behind back()", x.undo(), ShoesAtLaw.STATE);
        x.gives(0, 1);
        Due.is("what was done since may be undone", x.undo(), 0);
        x.steps(0);
        Due.is("kept anew", x.keep(1), 5);
        x.undo();
        x.steps(1);
        Due.is("another foot: foot(4)", x.foot(4), 1);
        Due.is("back(1)", x.back(1), 5);
        Due.is("as kept: foot(4)", x.foot(4), 0);
    }

    private static void imagesKeepNothingElse() {
        ShoesAtLaw x = court();
        x.saw(0, 0, 1);
        x.keep(0);
        x.saw(1, 0, 1);
        Due.type(x, "g1");
        x.back(0);
        Due.is("what was seen stays: count(4)", x.count(4), 2);
        Due.is("the text stays: count(5)", x.count(5), 2);
        Due.is("the goods stay: count(0)", x.count(0), 4);
    }

    private static void imagesBad() {
        ShoesAtLaw x = court();
        Due.is("keep(-1)", x.keep(-1), ShoesAtLaw.BAD);
        Due.is("keep(2)", x.keep(2), ShoesAtLaw.BAD);
        Due.is("back(-1)", x.back(-1), ShoesAtLaw.BAD);
        Due.is("back(2)", x.back(2), ShoesAtLaw.BAD);
    }
}
