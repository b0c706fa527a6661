/** Promises 19 to 26: every sentence that names a bound, at the bound and beyond it. */
public final class BoundsStepsTest {
    private static final int BAD = ShoesAtLaw.BAD, FULL = ShoesAtLaw.FULL, NONE = ShoesAtLaw.NONE;
    /** All bits of a part. */
    private static final int PART = (1 << 30) - 1;
    private static final String SIXTY = "01".repeat(30);

    public static void main(String[] args) {
        feetOfNoSteps();
        feetOfSomeSteps();
        feetOfAllSteps();
        feetUndone();
        wornFeet();
        wornCells();
        wornNotAtAll();
        wornTheMost();
        wornRoundTheSole();
        whatOfJudge();
        judgeOfNoSteps();
        cannotBeByHops();
        cannotBeAtTheLast();
        longestAndLedAtMost();
        sawFeet();
        sawCells();
        sawWear();
        sawAtMost();
        sawTheSameAgain();
        forgetting();
        partsOfWrong();
        wrongOfNothing();
        wrongAtTheEdgeOfAPart();
        wrongOfAllSteps();
        wrongByOneFoot();
        wrongByNone();
        asToldOfNothing();
        asToldJust();
        asToldAllOfSix();
        asToldTheMost();
        numbersOfSoonest();
        soonestByOneStep();
        soonestByHops();
        soonestOfSixty();
        soonestTheFarthest();
        soonestNothingWalkedAhead();
        Due.end();
    }

    private static ShoesAtLaw walked(String text, String feet) {
        ShoesAtLaw x = Due.told(text);
        Due.walk(x, feet);
        return x;
    }

    // ---- foot

    private static void feetOfNoSteps() {
        Due.under("The foot of a STEP. BAD.");
        for (int i : Bounds.beyond(1, 0)) {
            Due.is("of none, foot(" + i + ")", new ShoesAtLaw().foot(i), BAD);
        }
        Due.is("of none, foot(0)", new ShoesAtLaw().foot(0), BAD);
    }

    private static void feetOfSomeSteps() {
        Due.under("The foot of a STEP. BAD.");
        Bounds.are("of one, foot(i)", i -> walked("", "1").foot(i), 0, 1, 0, 1);
        Bounds.are("of three, foot(i)", i -> walked("", "011").foot(i), 0, 0, 2, 1);
    }

    private static void feetOfAllSteps() {
        Due.under("The foot of a STEP. BAD.");
        Bounds.are("of sixty, foot(i)", i -> walked("", SIXTY).foot(i), 0, 0, 59, 1);
        Bounds.are("of sixty, foot(i)", i -> walked("", "1".repeat(59) + "0").foot(i), 0, 1, 59, 0);
    }

    private static void feetUndone() {
        Due.under("BAD (a number is not as told, or there is no such thing)");
        ShoesAtLaw x = walked("", "110");
        x.undo();
        Due.is("foot(2), undone", x.foot(2), BAD);
        Due.is("foot(1)", x.foot(1), 1);
        x.suit();
        Due.is("read anew: foot(0)", x.foot(0), BAD);
    }

    // ---- worn

    private static void wornFeet() {
        Due.under("How worn a CELL of a foot is. BAD.");
        Bounds.are("worn(foot, 0)", foot -> walked("c2;", "000").worn(foot, 0), 0, 2, 1, 0);
    }

    private static void wornCells() {
        Due.under("How worn a CELL of a foot is. BAD. (CELLS of a sole: 1 .. 6)");
        for (int cells = 1; cells <= 6; cells++) {
            String text = "c" + cells + ";";
            Bounds.are(text + " worn(0, cell)", cell -> walked(text, "0".repeat(13)).worn(0, cell),
                0, (12 + cells) / cells, cells - 1, 13 / cells);
            Bounds.are(text + " worn(1, cell)", cell -> walked(text, "0".repeat(13)).worn(1, cell), 0, 0, cells - 1, 0);
        }
        Due.is("both are none: worn(2, 6)", new ShoesAtLaw().worn(2, 6), BAD);
    }

    private static void wornNotAtAll() {
        Due.under("How worn a CELL of a foot is.");
        for (int cell = 0; cell < 6; cell++) {
            Due.is("no steps: worn(0, " + cell + ")", new ShoesAtLaw().worn(0, cell), 0);
            Due.is("one step: worn(1, " + cell + ")", walked("", "1").worn(1, cell), cell == 0 ? 1 : 0);
        }
    }

    private static void wornTheMost() {
        Due.under("its sole wears by 1 in the CELL; (60 STEPS at most)");
        for (int foot = 0; foot < 2; foot++) {
            ShoesAtLaw x = walked("c1;", (foot == 0 ? "0" : "1").repeat(61));
            Due.is("worn(foot, 0)", x.worn(foot, 0), 60);
            Due.is("worn(1 - foot, 0)", x.worn(1 - foot, 0), 0);
        }
    }

    private static void wornRoundTheSole() {
        Due.under("in the CELL that is how many STEPS of that foot there were ahead of it, by CELLS, what is left over");
        for (int cells = 1; cells <= 6; cells++) {
            for (int made = 0; made <= 20; made++) {
                ShoesAtLaw x = walked("c" + cells + ";", "1".repeat(made) + "0");
                for (int cell = 0; cell < cells; cell++) {
                    int times = 0;
                    for (int ahead = 0; ahead < made; ahead++) {
                        times += ahead % cells == cell ? 1 : 0;
                    }
                    Due.is(made + " steps, " + cells + " cells: worn(1, " + cell + ")", x.worn(1, cell), times);
                }
            }
        }
    }

    // ---- judge

    private static void whatOfJudge() {
        Due.under("CANNOT (what = 0; NONE), LONGEST (1), LED (2). BAD.");
        Bounds.are("judge(what)", what -> walked("", "0001").judge(what), 0, 2, 2, 1);
        Bounds.are("of no steps, judge(what)", what -> new ShoesAtLaw().judge(what), 0, NONE, 2, 0);
    }

    private static void judgeOfNoSteps() {
        Due.under("CANNOT: the first STEP that CANNOT BE; NONE.");
        int[] none = {NONE, 0, 0};
        int[] one = {NONE, 1, 0};
        for (int what = 0; what < 3; what++) {
            Due.is("of none, judge(" + what + ")", new ShoesAtLaw().judge(what), none[what]);
            Due.is("of one, judge(" + what + ")", walked("h0;", "1").judge(what), one[what]);
        }
    }

    private static void cannotBeByHops() {
        Due.under("It CANNOT BE, if that foot made the latest HOPS and 1 STEPS or more, one behind another");
        for (int hops = 0; hops <= 3; hops++) {
            String text = "h" + hops + ";";
            String run = "0".repeat(hops + 1);
            Due.is("just so many: judge(0)", walked(text, run).judge(0), NONE);
            Due.is("one more: judge(0)", walked(text, run + "0").judge(0), hops + 1);
            Due.is("the other foot between: judge(0)", walked(text, run + "1" + run).judge(0), NONE);
            Due.is("one more of the other foot: judge(0)", walked(text, run + "1".repeat(hops + 2)).judge(0), 2 * hops + 2);
            Due.is("the first of two: judge(0)", walked(text, run + "01".repeat(2) + run + "0").judge(0), hops + 1);
        }
        Due.is("as HOPS are at first: judge(0)", walked("", "00").judge(0), NONE);
        Due.is("as HOPS are at first: judge(0)", walked("", "000").judge(0), 2);
    }

    private static void cannotBeAtTheLast() {
        Due.under("CANNOT: the first STEP that CANNOT BE");
        Due.is("the 60th: judge(0)", walked("h3;", "01".repeat(27) + "011111").judge(0), 59);
        Due.is("none of 60: judge(0)", walked("h3;", "01".repeat(27) + "001111").judge(0), NONE);
        Due.is("none of 60, in turn: judge(0)", walked("h0;", SIXTY).judge(0), NONE);
        Due.is("the second: judge(0)", walked("h0;", "0".repeat(60)).judge(0), 1);
    }

    private static void longestAndLedAtMost() {
        Due.under("LONGEST: the most STEPS of one foot, one behind another. LED: how often the foot was another one");
        ShoesAtLaw one = walked("", "1".repeat(60));
        Due.is("by one foot: judge(1)", one.judge(1), 60);
        Due.is("by one foot: judge(2)", one.judge(2), 0);
        ShoesAtLaw turns = walked("", SIXTY);
        Due.is("in turn: judge(1)", turns.judge(1), 1);
        Due.is("in turn: judge(2)", turns.judge(2), 59);
        ShoesAtLaw halves = walked("", "0".repeat(29) + "1".repeat(31));
        Due.is("the last run: judge(1)", halves.judge(1), 31);
        Due.is("one change: judge(2)", halves.judge(2), 1);
        Due.is("the first run: judge(1)", walked("", "1".repeat(31) + "0".repeat(29)).judge(1), 31);
    }

    // ---- saw, forget

    private static void sawFeet() {
        Due.under("SEEN: a foot's CELL is worn by v (0 .. 60). BAD");
        Bounds.are("saw(foot, 0, 0)", foot -> new ShoesAtLaw().saw(foot, 0, 0), 0, 1, 1, 1);
    }

    private static void sawCells() {
        Due.under("SEEN: a foot's CELL is worn by v (0 .. 60). BAD");
        for (int cells = 1; cells <= 6; cells++) {
            String text = "c" + cells + ";";
            Bounds.are(text + " saw(1, cell, 0)", cell -> Due.told(text).saw(1, cell, 0), 0, 1, cells - 1, 1);
        }
    }

    private static void sawWear() {
        Due.under("SEEN: a foot's CELL is worn by v (0 .. 60). BAD");
        Bounds.are("saw(1, 5, v)", v -> new ShoesAtLaw().saw(1, 5, v), 0, 1, 60, 1);
        Due.is("none is as told: saw(2, 6, 61)", new ShoesAtLaw().saw(2, 6, 61), BAD);
    }

    private static void sawAtMost() {
        Due.under("SEEN (6 at most)");
        ShoesAtLaw x = new ShoesAtLaw();
        for (int i = 1; i <= 6; i++) {
            Due.is("saw() " + i, x.saw(i % 2, i - 1, 0), i);
            Due.is("count(4)", x.count(4), i);
        }
        Due.is("the seventh", x.saw(0, 0, 1), FULL);
        Due.is("count(4)", x.count(4), 6);
        Due.is("it was not seen: asTold()", x.asTold(), 1);
        Due.is("forget()", x.forget(), 6);
        Due.is("there is room again", x.saw(0, 0, 1), 1);
        Due.is("now it was: asTold()", x.asTold(), 0);
    }

    private static void sawTheSameAgain() {
        Due.under("SEEN: how much there is.");
        ShoesAtLaw x = new ShoesAtLaw();
        for (int i = 1; i <= 6; i++) {
            Due.is("the same again", x.saw(1, 2, 0), i);
        }
        Due.is("asTold()", x.asTold(), 1);
        ShoesAtLaw both = walked("", "0");
        both.saw(0, 0, 1);
        both.saw(0, 0, 2);
        Due.is("both cannot be: asTold()", both.asTold(), 0);
        Due.is("both cannot be: wrong(0)", both.wrong(0), 0);
    }

    private static void forgetting() {
        Due.under("Nothing was SEEN: how much there was.");
        for (int many = 0; many <= 6; many++) {
            ShoesAtLaw x = new ShoesAtLaw();
            for (int i = 0; i < many; i++) {
                x.saw(0, i, 1);
            }
            Due.is("of " + many + ", asTold()", x.asTold(), many == 0 ? 1 : 0);
            Due.is("of " + many + ", forget()", x.forget(), many);
            Due.is("of " + many + ", forget() again", x.forget(), 0);
            Due.is("of " + many + ", count(4)", x.count(4), 0);
            Due.is("of " + many + ", asTold()", x.asTold(), 1);
        }
    }

    // ---- wrong

    private static void partsOfWrong() {
        Due.under("WRONG STEP, as bits of a part. BAD.");
        Bounds.are("wrong(part)", part -> walked("", "0".repeat(31)).wrong(part), 0, PART, 1, 1);
        Bounds.are("of no steps, wrong(part)", part -> new ShoesAtLaw().wrong(part), 0, 0, 1, 0);
    }

    private static void wrongOfNothing() {
        Due.under("WRONG STEP: .. STEPS of which one told the other way makes it so");
        ShoesAtLaw x = new ShoesAtLaw();
        Due.is("no steps, nothing seen: wrong(0)", x.wrong(0), 0);
        x.saw(0, 0, 0);
        Due.is("no steps, as seen: wrong(0)", x.wrong(0), 0);
        x.saw(0, 0, 1);
        Due.is("no steps, not as seen: wrong(0)", x.wrong(0), 0);
        Due.is("one step, nothing seen: wrong(0)", walked("", "1").wrong(0), 1);
        Due.is("one step, nothing seen: wrong(1)", walked("", "1").wrong(1), 0);
    }

    private static void wrongAtTheEdgeOfAPart() {
        Due.under("(as a number of bits, 0 the first, by 30 at a time: part 0 the first 30, 1 the rest)");
        int[][] due = {{29, (1 << 29) - 1, 0}, {30, PART, 0}, {31, PART, 1}, {32, PART, 3}, {59, PART, PART >> 1}, {60, PART, PART}};
        for (int[] d : due) {
            ShoesAtLaw x = walked("", "1".repeat(d[0]));
            Due.is("of " + d[0] + ", wrong(0)", x.wrong(0), d[1]);
            Due.is("of " + d[0] + ", wrong(1)", x.wrong(1), d[2]);
        }
        // LEFT made one step alone: it is the wrong one, wherever it is.
        for (int at : new int[] {0, 1, 28, 29, 30, 31, 58, 59}) {
            ShoesAtLaw x = walked("c1;", "1".repeat(at) + "0" + "1".repeat(59 - at));
            x.saw(0, 0, 0);
            Due.is("step " + at + ", wrong(0)", x.wrong(0), at < 30 ? 1 << at : 0);
            Due.is("step " + at + ", wrong(1)", x.wrong(1), at < 30 ? 0 : 1 << at - 30);
        }
    }

    private static void wrongOfAllSteps() {
        Due.under("WRONG STEP: .. STEPS of which one told the other way makes it so");
        ShoesAtLaw x = walked("c1;", "0".repeat(60));
        x.saw(0, 0, 59);
        x.saw(1, 0, 1);
        Due.is("any of sixty: wrong(0)", x.wrong(0), PART);
        Due.is("any of sixty: wrong(1)", x.wrong(1), PART);
        x.forget();
        x.saw(0, 0, 60);
        Due.is("it is so already, and by none told the other way: wrong(0)", x.wrong(0), 0);
        x.forget();
        x.saw(0, 0, 58);
        Due.is("it takes two: wrong(0)", x.wrong(0), 0);
        Due.is("it takes two: wrong(1)", x.wrong(1), 0);
    }

    private static void wrongByOneFoot() {
        Due.under("WRONG STEP: .. STEPS of which one told the other way makes it so");
        // LEFT's last step wore cell 0 anew; told the other way, RIGHT's next wears its cell 1.
        ShoesAtLaw left = walked("c2;", "0001");
        left.saw(0, 0, 1);
        Due.is("any of LEFT's: wrong(0)", left.wrong(0), 7);
        left.saw(1, 1, 1);
        Due.is("any of LEFT's, by either sole: wrong(0)", left.wrong(0), 7);
        ShoesAtLaw right = walked("c2;", "0001");
        right.saw(1, 0, 0);
        Due.is("RIGHT's alone: wrong(0)", right.wrong(0), 8);
        right.saw(0, 1, 2);
        Due.is("RIGHT's alone, by either sole: wrong(0)", right.wrong(0), 8);
        for (int foot = 0; foot < 2; foot++) {
            ShoesAtLaw alone = walked("c1;", (foot == 0 ? "0" : "1").repeat(3));
            alone.saw(foot, 0, 2);
            Due.is("any of the one foot's three, worn by two: wrong(0)", alone.wrong(0), 7);
            alone.saw(1 - foot, 0, 1);
            Due.is("and the other by one: wrong(0)", alone.wrong(0), 7);
            alone.forget();
            alone.saw(foot, 0, 1);
            Due.is("worn by one: wrong(0)", alone.wrong(0), 0);
        }
        // As many cells as it takes that one step less or more wears another cell than was looked at.
        ShoesAtLaw either = walked("c6;", "0101");
        either.saw(0, 5, 0);
        Due.is("any step: wrong(0)", either.wrong(0), 15);
    }

    private static void wrongByNone() {
        Due.under("WRONG STEP: .. STEPS of which one told the other way makes it so");
        ShoesAtLaw x = walked("c1;", SIXTY);
        for (int v : new int[] {0, 28, 30, 32, 60}) {
            x.forget();
            x.saw(0, 0, v);
            Due.is("LEFT's sole worn by " + v + ": wrong(0)", x.wrong(0), 0);
            Due.is("LEFT's sole worn by " + v + ": wrong(1)", x.wrong(1), 0);
        }
        x.forget();
        x.saw(0, 0, 29);
        x.saw(1, 0, 29);
        Due.is("both soles worn by 29: wrong(0)", x.wrong(0), 0);
    }

    // ---- asTold

    private static void asToldOfNothing() {
        Due.under("WORN AS TOLD: whether all SEEN is so (1, 0).");
        Due.is("nothing seen", new ShoesAtLaw().asTold(), 1);
        Due.is("nothing seen of sixty", walked("", SIXTY).asTold(), 1);
        ShoesAtLaw x = new ShoesAtLaw();
        x.saw(1, 5, 0);
        Due.is("not worn, as seen", x.asTold(), 1);
    }

    private static void asToldJust() {
        Due.under("WORN AS TOLD: whether all SEEN is so (1, 0).");
        for (int v = 0; v <= 5; v++) {
            ShoesAtLaw x = walked("c2;", "00000");
            x.saw(0, 0, v);
            Due.is("cell 0 by " + v, x.asTold(), v == 3 ? 1 : 0);
            ShoesAtLaw y = walked("c2;", "00000");
            y.saw(0, 1, v);
            Due.is("cell 1 by " + v, y.asTold(), v == 2 ? 1 : 0);
            ShoesAtLaw z = walked("c2;", "00000");
            z.saw(1, 1, v);
            Due.is("RIGHT's cell 1 by " + v, z.asTold(), v == 0 ? 1 : 0);
        }
    }

    private static void asToldAllOfSix() {
        Due.under("WORN AS TOLD: whether all SEEN is so (1, 0).");
        for (int wrong = 0; wrong <= 6; wrong++) {
            ShoesAtLaw x = walked("", "0".repeat(9));
            for (int cell = 0; cell < 6; cell++) {
                x.saw(0, cell, (cell < 3 ? 2 : 1) + (cell == wrong ? 1 : 0));
            }
            Due.is("all but cell " + wrong, x.asTold(), wrong == 6 ? 1 : 0);
        }
    }

    private static void asToldTheMost() {
        Due.under("a foot's CELL is worn by v (0 .. 60)");
        ShoesAtLaw x = walked("c1;", "1".repeat(60));
        x.saw(1, 0, 60);
        x.saw(0, 0, 0);
        Due.is("worn by sixty", x.asTold(), 1);
        x.undo();
        Due.is("worn by 59", x.asTold(), 0);
    }

    // ---- soonest

    private static void dueSoonest(String text, int n, int a, int b, int fewest) {
        Due.is("'" + text + "' soonest(" + n + ", " + a + ", " + b + ")", Due.told(text).soonest(n, a, b), fewest);
    }

    private static void numbersOfSoonest() {
        Due.under("SOONEST: a way of n (1 .. 99) yards: LEFT's steps are of a (1 .. 9) yards, RIGHT's of b (1 .. 9). BAD.");
        Bounds.are("soonest(n, 9, 1)", n -> new ShoesAtLaw().soonest(n, 9, 1), 1, 1, 99, 19);
        Bounds.are("soonest(9, a, 9)", a -> new ShoesAtLaw().soonest(9, a, 9), 1, 1, 9, 1);
        Bounds.are("soonest(9, 9, b)", b -> new ShoesAtLaw().soonest(9, 9, b), 1, 1, 9, 1);
        Due.is("none is as told: soonest(0, 0, 0)", new ShoesAtLaw().soonest(0, 0, 0), BAD);
        Due.is("none is as told: soonest(100, 10, 10)", new ShoesAtLaw().soonest(100, 10, 10), BAD);
    }

    private static void soonestByOneStep() {
        Due.under("the fewest STEPS that come to just n; NONE");
        for (int n = 1; n <= 9; n++) {
            dueSoonest("h0;", n, n, 9, 1);
            dueSoonest("h0;", n, 9, n, 1);
            dueSoonest("h3;", 1, n, n, n == 1 ? 1 : NONE);
        }
    }

    private static void soonestByHops() {
        Due.under("by HOPS at most");
        for (int hops = 0; hops <= 3; hops++) {
            String text = "h" + hops + ";";
            dueSoonest(text, hops + 1, 1, 9, hops + 1);
            dueSoonest(text, hops + 2, 1, 9, NONE);
            dueSoonest(text, hops + 1, 9, 1, hops + 1);
            dueSoonest(text, hops + 2, 9, 1, NONE);
            // One of the other foot between two rows of HOPS and 1 steps.
            dueSoonest(text, 2 * (hops + 1) + 9, 1, 9, 2 * (hops + 1) + 1);
        }
    }

    private static void soonestOfSixty() {
        Due.under("NONE (of 60)");
        for (int hops = 0; hops <= 3; hops++) {
            String text = "h" + hops + ";";
            dueSoonest(text, 59, 1, 1, 59);
            dueSoonest(text, 60, 1, 1, 60);
            dueSoonest(text, 61, 1, 1, NONE);
            dueSoonest(text, 99, 1, 1, NONE);
        }
        dueSoonest("h0;", 90, 1, 2, 60);
        dueSoonest("h0;", 90, 2, 1, 60);
        dueSoonest("h0;", 91, 1, 2, NONE);
        dueSoonest("h0;", 92, 1, 2, NONE);
    }

    private static void soonestTheFarthest() {
        Due.under("a way of n (1 .. 99) yards");
        dueSoonest("", 99, 9, 9, 11);
        dueSoonest("h0;", 99, 9, 9, 11);
        dueSoonest("h3;", 98, 9, 9, NONE);
        dueSoonest("h0;", 99, 8, 9, NONE);
        dueSoonest("", 99, 2, 2, NONE);
    }

    private static void soonestNothingWalkedAhead() {
        Due.under("by HOPS at most, nothing walked ahead");
        for (String feet : new String[] {"", "00", "11", "1".repeat(60)}) {
            Due.is(feet + " soonest(2, 1, 9)", walked("", feet).soonest(2, 1, 9), 2);
            Due.is(feet + " soonest(2, 9, 1)", walked("", feet).soonest(2, 9, 1), 2);
            Due.is(feet + " soonest(60, 1, 1)", walked("", feet).soonest(60, 1, 1), 60);
        }
    }
}
