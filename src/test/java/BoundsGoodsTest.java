/** Promises 5 to 11: every sentence that names a bound, at the bound and beyond it. */
public final class BoundsGoodsTest {
    private static final int BAD = ShoesAtLaw.BAD, STATE = ShoesAtLaw.STATE, FULL = ShoesAtLaw.FULL;
    private static final String SIX = "g1 2;g3 4;g5 6;g7 8;g9 10;g11 12;";
    /** All goods and pairs that there may be, each worth as much as it may. */
    private static final String MOST = "g20 20;".repeat(6) + "p0 1 20 20;".repeat(4);

    public static void main(String[] args) {
        goods();
        goodsByHowManyThereAre();
        goodsAtFirst();
        sidesOfValues();
        setsOfValues();
        leastAndMostValue();
        halfAPair();
        whatOfNow();
        nowOfNothing();
        nowOfAll();
        givesWhatThereIs();
        givesToWhom();
        givesToWhereItIs();
        feetOfSteps();
        stepsAtMost();
        stepsRoundTheSole();
        stepsThatCannotBe();
        undoOfNone();
        tenAreKnown();
        elevenAreNotKnown();
        refusedAreNotUndone();
        undoneDeedsComeBack();
        undoneDeedsComeBackBehindLostOnes();
        undoFromFull();
        sidesOfEnvy();
        envyOfNothing();
        envyOfAsMuch();
        envyOfTheMost();
        envyNotOfTheTable();
        Due.end();
    }

    // ---- good

    private static void goods() {
        Due.under("Of a GOOD: 0 WORTH to LEFT, 1 to RIGHT, 2 whose it is (0, 1, 2). BAD.");
        Bounds.are("good(g, 0)", g -> Due.told(SIX).good(g, 0), 0, 1, 5, 11);
        Bounds.are("good(g, 1)", g -> Due.told(SIX).good(g, 1), 0, 2, 5, 12);
        Bounds.are("good(g, 2)", g -> Due.told(SIX).good(g, 2), 0, 2, 5, 2);
        Bounds.are("good(5, what)", what -> Due.told(SIX).good(5, what), 0, 11, 2, 2);
        Due.is("both are none: good(6, 3)", Due.told(SIX).good(6, 3), BAD);
        Due.is("both are none: good(-1, -1)", Due.told(SIX).good(-1, -1), BAD);
    }

    private static void goodsByHowManyThereAre() {
        Due.under("BAD (a number is not as told, or there is no such thing)");
        for (int many = 1; many <= 6; many++) {
            String text = "g3 4;".repeat(many);
            Bounds.are("of " + many + ", good(g, 0)", g -> Due.told(text).good(g, 0), 0, 3, many - 1, 3);
            Bounds.are("of " + many + ", gives(g, 1)", g -> Due.told(text).gives(g, 1), 0, 2, many - 1, 2);
        }
        ShoesAtLaw fewer = Due.told(SIX);
        Due.retell(fewer, "g1 2;");
        Due.is("a good of the suit before", fewer.good(1, 0), BAD);
        Due.is("a good of the suit before", fewer.gives(1, 0), BAD);
        Due.is("a set of the suit before", fewer.values(0, 2), BAD);
    }

    private static void goodsAtFirst() {
        Due.under("A GOOD is LEFT's (0), RIGHT's (1), or on the TABLE (2; at first).");
        ShoesAtLaw x = Due.told(SIX);
        for (int g = 0; g < 6; g++) {
            Due.is("at first: good(" + g + ", 2)", x.good(g, 2), 2);
            x.gives(g, g % 2);
            Due.is("given: good(" + g + ", 2)", x.good(g, 2), g % 2);
        }
        Due.retell(x, SIX);
        for (int g = 0; g < 6; g++) {
            Due.is("read anew: good(" + g + ", 2)", x.good(g, 2), 2);
        }
    }

    // ---- values

    private static void sidesOfValues() {
        Due.under("What a SIDE VALUES a set of GOODS at. BAD. (A SIDE: 0 LEFT, 1 RIGHT)");
        Bounds.are("values(side, 63)", side -> Due.told(SIX).values(side, 63), 0, 36, 1, 42);
        Bounds.are("values(side, 0)", side -> Due.told(SIX).values(side, 0), 0, 0, 1, 0);
    }

    private static void setsOfValues() {
        Due.under("What a SIDE VALUES a set of GOODS at. BAD.");
        for (int many = 0; many <= 6; many++) {
            String text = "g3 4;".repeat(many);
            int all = (1 << many) - 1;
            Bounds.are("of " + many + ", values(0, set)", set -> Due.told(text).values(0, set), 0, 0, all, 3 * many);
            Bounds.are("of " + many + ", values(1, set)", set -> Due.told(text).values(1, set), 0, 0, all, 4 * many);
        }
        ShoesAtLaw x = Due.told("g3 4;g3 4;");
        for (int bit = 2; bit < 32; bit++) {
            Due.is("a good that there is not, and those that there are", x.values(0, 1 << bit | 3), BAD);
        }
        Due.is("values(2, 4)", x.values(2, 4), BAD);
    }

    private static void leastAndMostValue() {
        Due.under("A SIDE VALUES GOODS by their WORTH to it, and MORE of each PAIR that is all among them.");
        ShoesAtLaw most = Due.told(MOST);
        ShoesAtLaw least = Due.told("g0 0;".repeat(6) + "p0 1 0 0;".repeat(4));
        for (int side = 0; side < 2; side++) {
            Due.is("all: values(" + side + ", 63)", most.values(side, 63), 200);
            Due.is("none: values(" + side + ", 0)", most.values(side, 0), 0);
            Due.is("worth nothing: values(" + side + ", 63)", least.values(side, 63), 0);
        }
    }

    private static void halfAPair() {
        Due.under("MORE of each PAIR that is all among them");
        ShoesAtLaw x = Due.told("g1 1;".repeat(6) + "p0 5 10 20;");
        Due.is("all but one of the pair", x.values(0, 63 - 32), 5);
        Due.is("all but the other one", x.values(0, 63 - 1), 5);
        Due.is("only the pair: LEFT", x.values(0, 33), 12);
        Due.is("only the pair: RIGHT", x.values(1, 33), 22);
    }

    // ---- now

    private static void whatOfNow() {
        Due.under("0, 1 GOODS of LEFT, of RIGHT (bits), 2 on the TABLE (bits), 3 STEPS, 4 how many may be UNDONE. BAD.");
        Bounds.are("now(what)", what -> Due.told(SIX).now(what), 0, 0, 4, 0);
    }

    private static void nowOfNothing() {
        Due.under("0, 1 GOODS of LEFT, of RIGHT (bits), 2 on the TABLE (bits), 3 STEPS, 4 how many may be UNDONE.");
        ShoesAtLaw x = new ShoesAtLaw();
        for (int what = 0; what < 5; what++) {
            Due.is("of nothing: now(" + what + ")", x.now(what), 0);
        }
    }

    private static void nowOfAll() {
        Due.under("0, 1 GOODS of LEFT, of RIGHT (bits), 2 on the TABLE (bits), 3 STEPS, 4 how many may be UNDONE.");
        for (int whose = 0; whose < 3; whose++) {
            ShoesAtLaw x = Due.told(SIX);
            for (int g = 0; g < 6; g++) {
                x.gives(g, whose);
            }
            for (int what = 0; what < 3; what++) {
                Due.is("all are of " + whose + ": now(" + what + ")", x.now(what), what == whose ? 63 : 0);
            }
        }
        ShoesAtLaw walked = new ShoesAtLaw();
        Due.walk(walked, "01".repeat(30));
        Due.is("now(3)", walked.now(3), 60);
        Due.is("now(4)", walked.now(4), 10);
    }

    // ---- gives

    private static void givesWhatThereIs() {
        Due.under("GIVEN: whose it was. BAD.");
        Bounds.are("gives(g, 0)", g -> Due.told(SIX).gives(g, 0), 0, 2, 5, 2);
    }

    private static void givesToWhom() {
        Due.under("GIVEN: a GOOD comes to a SIDE, or to the TABLE.");
        Bounds.are("gives(5, to)", to -> Due.told(SIX).gives(5, to), 0, 2, 2, 2);
        for (int from = 0; from < 3; from++) {
            for (int to = 0; to < 3; to++) {
                ShoesAtLaw x = Due.told(SIX);
                x.gives(5, from);
                Due.is("from " + from + " to " + to, x.gives(5, to), from);
                Due.is("whose it is then", x.good(5, 2), to);
            }
        }
    }

    private static void givesToWhereItIs() {
        Due.under("UNDONE: the latest gives(), steps() that was not refused");
        for (int whose = 0; whose < 3; whose++) {
            ShoesAtLaw x = Due.told(SIX);
            x.gives(0, whose);
            Due.is("to where it is: gives(0, " + whose + ")", x.gives(0, whose), whose);
            Due.is("it is not refused: now(4)", x.now(4), 2);
            Due.is("undo()", x.undo(), 1);
            Due.is("good(0, 2)", x.good(0, 2), whose);
        }
    }

    // ---- steps

    private static void feetOfSteps() {
        Due.under("A STEP: how worn that CELL is then. BAD; FULL. (a foot: 0, 1)");
        Bounds.are("steps(foot)", foot -> new ShoesAtLaw().steps(foot), 0, 1, 1, 1);
    }

    private static void stepsAtMost() {
        Due.under("A STEP: a foot (0, 1) goes ahead (60 STEPS at most)");
        for (int foot = 0; foot < 2; foot++) {
            ShoesAtLaw x = Due.told("c1;");
            for (int i = 1; i <= 60; i++) {
                Due.is("step " + i, x.steps(foot), i);
            }
            Due.is("the 61st", x.steps(foot), FULL);
            Due.is("the 61st, by the other foot", x.steps(1 - foot), FULL);
            Due.is("now(3)", x.now(3), 60);
            Due.is("worn(foot, 0)", x.worn(foot, 0), 60);
            Due.is("worn(1 - foot, 0)", x.worn(1 - foot, 0), 0);
        }
    }

    private static void stepsRoundTheSole() {
        Due.under("in the CELL that is how many STEPS of that foot there were ahead of it, by CELLS, what is left over");
        for (int cells = 1; cells <= 6; cells++) {
            ShoesAtLaw x = Due.told("c" + cells + ";");
            for (int i = 0; i < 30; i++) {
                Due.is(cells + " cells, LEFT's step " + i, x.steps(0), i / cells + 1);
                Due.is("the cell", x.worn(0, i % cells), i / cells + 1);
                Due.is("the next one", x.worn(0, (i + 1) % cells), cells == 1 ? i + 1 : (i + 1) / cells);
                Due.is(cells + " cells, RIGHT's step " + i, x.steps(1), i / cells + 1);
            }
        }
    }

    private static void stepsThatCannotBe() {
        Due.under("It CANNOT BE, if that foot made the latest HOPS and 1 STEPS or more, one behind another (it is told all the same).");
        for (int hops = 0; hops <= 3; hops++) {
            ShoesAtLaw x = Due.told("c1;h" + hops + ";");
            for (int i = 0; i <= hops; i++) {
                x.steps(1);
            }
            Due.is("HOPS and 1 steps: judge(0)", x.judge(0), ShoesAtLaw.NONE);
            Due.is("one more is told all the same", x.steps(1), hops + 2);
            Due.is("judge(0)", x.judge(0), hops + 1);
            Due.is("now(3)", x.now(3), hops + 2);
            Due.is("and one more", x.steps(1), hops + 3);
            Due.is("judge(0) is the first", x.judge(0), hops + 1);
        }
    }

    // ---- undo

    private static void undoOfNone() {
        Due.under("UNDONE: how many more may be. STATE: none.");
        ShoesAtLaw x = Due.told(SIX);
        Due.is("undo() of none", x.undo(), STATE);
        x.gives(0, 0);
        Due.is("undo() of one", x.undo(), 0);
        Due.is("undo() of none more", x.undo(), STATE);
        x.steps(0);
        Due.is("undo() of a step", x.undo(), 0);
        Due.is("undo() of none more", x.undo(), STATE);
    }

    private static void tenAreKnown() {
        Due.under("UNDONE: .. (10 are known, older ones are lost)");
        ShoesAtLaw x = Due.told(SIX);
        for (int i = 0; i < 5; i++) {
            x.gives(i, 1);
            x.steps(i % 2);
        }
        Due.is("now(4)", x.now(4), 10);
        for (int more = 9; more >= 0; more--) {
            Due.is("undo()", x.undo(), more);
            Due.is("now(4)", x.now(4), more);
        }
        Due.is("all ten are undone: now(1)", x.now(1), 0);
        Due.is("all ten are undone: now(3)", x.now(3), 0);
        Due.is("undo()", x.undo(), STATE);
    }

    private static void elevenAreNotKnown() {
        Due.under("UNDONE: .. (10 are known, older ones are lost)");
        for (int deeds = 11; deeds <= 25; deeds++) {
            ShoesAtLaw x = new ShoesAtLaw();
            for (int i = 0; i < deeds; i++) {
                x.steps(i % 2);
            }
            Due.is("of " + deeds + ", now(4)", x.now(4), 10);
            for (int more = 9; more >= 0; more--) {
                Due.is("of " + deeds + ", undo()", x.undo(), more);
            }
            Due.is("of " + deeds + ", the eleventh is lost", x.undo(), STATE);
            Due.is("of " + deeds + ", the rest stays: now(3)", x.now(3), deeds - 10);
        }
        ShoesAtLaw given = Due.told(SIX);
        for (int i = 0; i < 11; i++) {
            given.gives(i % 6, i < 6 ? 0 : 1);
        }
        for (int i = 0; i < 10; i++) {
            given.undo();
        }
        Due.is("the first giving stays: now(0)", given.now(0), 1);
        Due.is("now(2)", given.now(2), 62);
    }

    private static void refusedAreNotUndone() {
        Due.under("UNDONE: the latest gives(), steps() that was not refused");
        ShoesAtLaw x = Due.told(SIX);
        x.gives(2, 1);
        x.gives(6, 1);
        x.gives(2, 3);
        x.gives(-1, 0);
        x.steps(2);
        x.steps(-1);
        Due.is("now(4)", x.now(4), 1);
        Due.is("undo()", x.undo(), 0);
        Due.is("good(2, 2)", x.good(2, 2), 2);
        ShoesAtLaw full = new ShoesAtLaw();
        Due.walk(full, "0".repeat(59) + "1");
        Due.is("the 61st", full.steps(0), FULL);
        Due.is("the 60th is undone", full.undo(), 9);
        Due.is("foot(58)", full.foot(58), 0);
        Due.is("foot(59)", full.foot(59), BAD);
        Due.is("worn(1, 0)", full.worn(1, 0), 0);
    }

    private static void undoneDeedsComeBack() {
        Due.under("UNDONE: the latest gives(), steps() that was not refused");
        ShoesAtLaw x = Due.told(SIX);
        for (int to : new int[] {0, 1, 2, 1, 0, 2, 0}) {
            x.gives(3, to);
        }
        int[] back = {2, 0, 1, 2, 1, 0, 2};
        for (int i = 0; i < back.length; i++) {
            x.undo();
            Due.is("behind undo() " + i + ", good(3, 2)", x.good(3, 2), back[i]);
        }
    }

    private static void undoneDeedsComeBackBehindLostOnes() {
        Due.under("UNDONE: .. (10 are known, older ones are lost)");
        for (int deeds = 10; deeds <= 30; deeds++) {
            ShoesAtLaw x = Due.told(SIX);
            int[] left = new int[deeds];
            int[] right = new int[deeds];
            int[] walked = new int[deeds];
            for (int i = 0; i < deeds; i++) {
                left[i] = x.now(0);
                right[i] = x.now(1);
                walked[i] = x.now(3);
                if (i % 4 == 3) {
                    x.steps(i % 2);
                } else {
                    x.gives(i * 5 % 6, i * 7 % 11 % 3);
                }
            }
            for (int i = deeds - 1; i >= deeds - 10; i--) {
                x.undo();
                Due.is("of " + deeds + ", undone to " + i + ": now(0)", x.now(0), left[i]);
                Due.is("of " + deeds + ", undone to " + i + ": now(1)", x.now(1), right[i]);
                Due.is("of " + deeds + ", undone to " + i + ": now(3)", x.now(3), walked[i]);
            }
        }
    }

    private static void undoFromFull() {
        Due.under("UNDONE: how many more may be.");
        ShoesAtLaw x = Due.told("c1;");
        Due.walk(x, "1".repeat(60));
        for (int i = 0; i < 10; i++) {
            x.undo();
        }
        Due.is("now(3)", x.now(3), 50);
        Due.is("worn(1, 0)", x.worn(1, 0), 50);
        Due.walk(x, "0".repeat(10));
        Due.is("full again", x.steps(0), FULL);
        Due.is("worn(0, 0)", x.worn(0, 0), 10);
    }

    // ---- envy

    private static ShoesAtLaw parted(String text, int right) {
        ShoesAtLaw x = Due.told(text);
        for (int g = 0; g < x.count(0); g++) {
            x.gives(g, right >> g & 1);
        }
        return x;
    }

    private static void sidesOfEnvy() {
        Due.under("ENVY. BAD.");
        Bounds.are("envy(side)", side -> parted("g3 5;g4 4;", 2).envy(side), 0, 1, 1, 1);
    }

    private static void envyOfNothing() {
        Due.under("ENVY of a SIDE: .. 0, if it does not");
        for (int side = 0; side < 2; side++) {
            Due.is("no goods", new ShoesAtLaw().envy(side), 0);
            Due.is("nobody has any", Due.told(SIX).envy(side), 0);
            Due.is("it has all", parted(SIX, side * 63).envy(side), 0);
        }
    }

    private static void envyOfAsMuch() {
        Due.under("ENVY of a SIDE: how much more it VALUES what the other SIDE has than its own; 0, if it does not");
        for (int left = 0; left <= 20; left++) {
            ShoesAtLaw x = parted("g" + left + " 10;g10 " + left + ";", 2);
            Due.is("LEFT has " + left + ", the other 10", x.envy(0), Math.max(0, 10 - left));
            Due.is("RIGHT has " + left + ", the other 10", x.envy(1), Math.max(0, 10 - left));
        }
    }

    private static void envyOfTheMost() {
        Due.under("ENVY of a SIDE: how much more it VALUES what the other SIDE has than its own");
        Due.is("RIGHT has all: envy(0)", parted(MOST, 63).envy(0), 200);
        Due.is("LEFT has all: envy(1)", parted(MOST, 0).envy(1), 200);
        Due.is("all but a half of the pairs: envy(0)", parted(MOST, 62).envy(0), 80);
    }

    private static void envyNotOfTheTable() {
        Due.under("ENVY of a SIDE: how much more it VALUES what the other SIDE has than its own");
        ShoesAtLaw x = Due.told("g1 1;g20 20;p0 1 20 20;");
        x.gives(0, 1);
        Due.is("half a pair is on the table: envy(0)", x.envy(0), 1);
        x.gives(1, 1);
        Due.is("it has the pair: envy(0)", x.envy(0), 41);
        x.gives(1, 0);
        Due.is("envy(1)", x.envy(1), 19);
        x.gives(1, 2);
        Due.is("laid on the table: envy(1)", x.envy(1), 0);
    }
}
