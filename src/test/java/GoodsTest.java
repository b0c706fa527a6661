/** Promises 5 to 11: goods, what they are worth, what is done and undone, envy. */
public final class GoodsTest {
    private static final int BAD = ShoesAtLaw.BAD;

    public static void main(String[] args) {
        goods();
        valuesOfSets();
        pairsToldAgain();
        whatThereIsNow();
        giving();
        stepping();
        sixtySteps();
        undoing();
        tenDeedsAreKnown();
        refusedDeedsAreNotKnown();
        envyOfEither();
        Due.end();
    }

    private static void goods() {
        ShoesAtLaw x = Due.told("g5 6;g0 20;");
        int[][] want = {{5, 6, 2}, {0, 20, 2}};
        for (int g = 0; g < 2; g++) {
            for (int what = 0; what < 3; what++) {
                Due.is("good(" + g + ", " + what + ")", x.good(g, what), want[g][what]);
            }
        }
        x.gives(0, 1);
        x.gives(1, 0);
        Due.is("good(0, 2) of RIGHT", x.good(0, 2), 1);
        Due.is("good(1, 2) of LEFT", x.good(1, 2), 0);
        Due.is("good(2, 0)", x.good(2, 0), BAD);
        Due.is("good(-1, 0)", x.good(-1, 0), BAD);
        Due.is("good(0, 3)", x.good(0, 3), BAD);
        Due.is("good(0, -1)", x.good(0, -1), BAD);
    }

    private static void valuesOfSets() {
        ShoesAtLaw x = Due.told("g1 10;g2 20;g4 13;p0 2 8 0;p2 1 16 7;");
        int[] left = {0, 1, 2, 3, 4, 13, 22, 31};
        int[] right = {0, 10, 20, 30, 13, 23, 40, 50};
        for (int set = 0; set < 8; set++) {
            Due.is("values(0, " + set + ")", x.values(0, set), left[set]);
            Due.is("values(1, " + set + ")", x.values(1, set), right[set]);
        }
        Due.is("values(0, 8)", x.values(0, 8), BAD);
        Due.is("values(0, -1)", x.values(0, -1), BAD);
        Due.is("values(2, 0)", x.values(2, 0), BAD);
        Due.is("values(-1, 0)", x.values(-1, 0), BAD);
    }

    private static void pairsToldAgain() {
        ShoesAtLaw x = Due.told("g1 1;g1 1;p0 1 3 4;p1 0 5 6;p0 1 3 4;p0 1 20 20;");
        Due.is("each pair counts for LEFT", x.values(0, 3), 33);
        Due.is("each pair counts for RIGHT", x.values(1, 3), 36);
        Due.is("half a pair", x.values(0, 2), 1);
        ShoesAtLaw most = Due.told("g20 20;g20 20;g20 20;g20 20;g20 20;g20 20;p0 1 20 20;p2 3 20 20;p4 5 20 20;p5 0 20 20;");
        Due.is("the most", most.values(1, 63), 200);
        Due.is("values(1, 64)", most.values(1, 64), BAD);
    }

    private static void whatThereIsNow() {
        ShoesAtLaw x = Due.told("g1 1;g1 1;g1 1;g1 1;");
        x.gives(0, 0);
        x.gives(3, 0);
        x.gives(1, 1);
        Due.walk(x, "0110");
        int[] want = {9, 2, 4, 4, 7};
        for (int what = 0; what < want.length; what++) {
            Due.is("now(" + what + ")", x.now(what), want[what]);
        }
        Due.is("now(-1)", x.now(-1), BAD);
        Due.is("now(5)", x.now(5), BAD);
    }

    private static void giving() {
        ShoesAtLaw x = Due.told("g1 1;g1 1;");
        Due.is("to LEFT", x.gives(1, 0), 2);
        Due.is("to LEFT again", x.gives(1, 0), 0);
        Due.is("to RIGHT", x.gives(1, 1), 0);
        Due.is("to the TABLE", x.gives(1, 2), 1);
        Due.is("to the TABLE again", x.gives(1, 2), 2);
        Due.is("gives(2, 0)", x.gives(2, 0), BAD);
        Due.is("gives(-1, 0)", x.gives(-1, 0), BAD);
        Due.is("gives(0, 3)", x.gives(0, 3), BAD);
        Due.is("gives(0, -1)", x.gives(0, -1), BAD);
        Due.is("each one is known, alike or not", x.now(4), 5);
        Due.is("now(2)", x.now(2), 3);
    }

    private static void stepping() {
        ShoesAtLaw x = Due.told("c2;");
        int[] left = {1, 1, 2, 2, 3, 3, 4};
        for (int i = 0; i < left.length; i++) {
            Due.is("LEFT's step " + i, x.steps(0), left[i]);
            if (i < 3) {
                Due.is("RIGHT's step " + i, x.steps(1), left[i]);
            }
        }
        Due.is("steps(2)", x.steps(2), BAD);
        Due.is("steps(-1)", x.steps(-1), BAD);
        Due.is("now(3)", x.now(3), 10);
        ShoesAtLaw six = new ShoesAtLaw();
        for (int i = 0; i < 13; i++) {
            Due.is("of six cells, step " + i, six.steps(1), i / 6 + 1);
        }
    }

    private static void sixtySteps() {
        ShoesAtLaw x = Due.told("c1;h0;");
        for (int i = 1; i <= 60; i++) {
            Due.is("step " + i, x.steps(1), i);
        }
        Due.is("the 61st", x.steps(1), ShoesAtLaw.FULL);
        Due.is("the 61st, of the other foot", x.steps(0), ShoesAtLaw.FULL);
        Due.is("no foot, when full", x.steps(2), BAD);
        Due.is("now(3)", x.now(3), 60);
        Due.is("now(4)", x.now(4), 10);
        Due.is("undo()", x.undo(), 9);
        Due.is("the 60th anew", x.steps(0), 1);
        Due.is("full again", x.steps(0), ShoesAtLaw.FULL);
    }

    private static void undoing() {
        ShoesAtLaw x = Due.told("g1 2;g3 4;");
        x.gives(0, 0);
        x.steps(1);
        x.gives(0, 1);
        x.gives(1, 1);
        x.steps(0);
        x.gives(1, 1);
        Due.is("undo a giving that changed nothing", x.undo(), 5);
        Due.is("now(1)", x.now(1), 3);
        Due.is("undo the step", x.undo(), 4);
        Due.is("now(3)", x.now(3), 1);
        Due.is("foot(0)", x.foot(0), 1);
        Due.is("undo giving 1", x.undo(), 3);
        Due.is("good(1, 2)", x.good(1, 2), 2);
        Due.is("undo giving 0 to RIGHT", x.undo(), 2);
        Due.is("good(0, 2)", x.good(0, 2), 0);
        Due.is("undo the first step", x.undo(), 1);
        Due.is("now(3)", x.now(3), 0);
        Due.is("undo the first giving", x.undo(), 0);
        Due.is("good(0, 2)", x.good(0, 2), 2);
        Due.is("no more", x.undo(), ShoesAtLaw.STATE);
        Due.is("still no more", x.undo(), ShoesAtLaw.STATE);
        Due.is("now(4)", x.now(4), 0);
    }

    private static void tenDeedsAreKnown() {
        ShoesAtLaw x = Due.told("g1 2;");
        x.gives(0, 0);
        x.gives(0, 1);
        for (int i = 0; i < 9; i++) {
            x.steps(i % 2);
            Due.is("now(4)", x.now(4), Math.min(10, i + 3));
        }
        for (int i = 9; i >= 0; i--) {
            Due.is("undo()", x.undo(), i);
        }
        Due.is("the eleventh is lost", x.undo(), ShoesAtLaw.STATE);
        Due.is("good(0, 2) as behind the first", x.good(0, 2), 0);
        Due.is("now(3)", x.now(3), 0);
        for (int i = 0; i < 25; i++) {
            x.gives(0, i % 3);
        }
        for (int i = 0; i < 10; i++) {
            x.undo();
        }
        Due.is("good(0, 2) as behind the 15th", x.good(0, 2), 2);
        Due.is("undo()", x.undo(), ShoesAtLaw.STATE);
    }

    private static void refusedDeedsAreNotKnown() {
        ShoesAtLaw x = Due.told("g1 2;");
        x.gives(0, 3);
        x.gives(1, 0);
        x.steps(2);
        Due.is("now(4)", x.now(4), 0);
        x.saw(0, 0, 1);
        x.keep(0);
        x.rate(0, 0);
        Due.is("other calls are not undone", x.now(4), 0);
    }

    private static void envyOfEither() {
        ShoesAtLaw x = Due.told("g5 3;g2 6;g4 4;p0 1 7 0;p1 2 0 5;");
        Due.is("nobody has anything: LEFT", x.envy(0), 0);
        Due.is("nobody has anything: RIGHT", x.envy(1), 0);
        x.gives(0, 0);
        x.gives(1, 0);
        Due.is("LEFT has 0, 1: LEFT", x.envy(0), 0);
        Due.is("LEFT has 0, 1: RIGHT", x.envy(1), 9);
        x.gives(2, 1);
        Due.is("RIGHT has 2, too: RIGHT", x.envy(1), 5);
        x.gives(1, 1);
        Due.is("RIGHT has 1, 2: LEFT", x.envy(0), 1);
        Due.is("RIGHT has 1, 2: RIGHT", x.envy(1), 0);
        Due.is("envy(2)", x.envy(2), BAD);
        Due.is("envy(-1)", x.envy(-1), BAD);
        ShoesAtLaw alike = Due.told("g5 5;g5 5;");
        alike.gives(0, 0);
        alike.gives(1, 1);
        Due.is("alike: LEFT", alike.envy(0), 0);
        Due.is("alike: RIGHT", alike.envy(1), 0);
    }
}
