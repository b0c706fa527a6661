/** Promises 12 to 18: every sentence that names a bound, at the bound and beyond it. */
public final class BoundsPartingsTest {
    private static final int BAD = ShoesAtLaw.BAD, NONE = ShoesAtLaw.NONE;
    private static final String NOTHING = "g0 0;".repeat(6);

    public static void main(String[] args) {
        whatOfFair();
        fairOfNoGoods();
        fairNone();
        fairAll();
        fairJustWithoutEnvy();
        bestOfSeveral();
        mostTogether();
        lostNothing();
        lostByFairness();
        partingsAreOfAllGoods();
        numbersOfCut();
        cutNothing();
        cutOneGood();
        cutAlikeTakesTheRest();
        cutTheLeastOfSeveral();
        cutAll();
        numbersOfTurns();
        turnsWithNoneOnTheTable();
        turnsOfOne();
        turnsOfAll();
        turnsTakeTheLeastOfSeveral();
        turnsCountWhatEachHas();
        numbersOfLies();
        liesOfNothing();
        liesOfNought();
        liesOfTwenty();
        liesTheFirst();
        liesWithoutBest();
        liesByBestOfWhatIsTold();
        liesToTheOtherWhoHasJustNoEnvy();
        liesByOneLess();
        liesOfOneSideAndTheOther();
        numbersOfSell();
        sellNothing();
        sellAll();
        sellNotAboveThePrice();
        sellTheLeastOfSeveral();
        numbersOfAdds();
        addsAtNoMore();
        numbersOfOdds();
        oddsOfNeverAndAlways();
        oddsByNoughtAndTen();
        oddsInLeastTerms();
        Due.end();
    }

    // ---- fair

    private static void dueFair(String text, int many, int best, int much, int lost) {
        int[] want = {many, best, much, lost};
        for (int what = 0; what < want.length; what++) {
            Due.is("'" + text + "' fair(" + what + ")", Due.told(text).fair(what), want[what]);
        }
    }

    private static void whatOfFair() {
        Due.under("FAIR: how many (what = 0), BEST (1; NONE), as much (2; NONE), LOST (3; NONE). BAD.");
        Bounds.are("fair(what)", what -> Due.told("g10 9;g10 9;").fair(what), 0, 2, 3, 1);
        Bounds.are("of no goods, fair(what)", what -> new ShoesAtLaw().fair(what), 0, 1, 3, 0);
        Bounds.are("none is fair, fair(what)", what -> Due.told("g1 1;").fair(what), 0, 0, 3, NONE);
    }

    private static void fairOfNoGoods() {
        Due.under("PARTINGS: all ways to give all GOODS to LEFT or RIGHT");
        dueFair("", 1, 0, 0, 0);
    }

    private static void fairNone() {
        Due.under("BEST (1; NONE), as much (2; NONE), LOST (3; NONE)");
        dueFair("g1 1;", 0, NONE, NONE, NONE);
        dueFair("g20 20;", 0, NONE, NONE, NONE);
        dueFair("g20 20;" + "g1 1;".repeat(5), 0, NONE, NONE, NONE);
    }

    private static void fairAll() {
        Due.under("FAIR: neither has ENVY: how many PARTINGS are");
        for (int goods = 0; goods <= 6; goods++) {
            dueFair("g0 0;".repeat(goods), 1 << goods, 0, 0, 0);
        }
    }

    private static void fairJustWithoutEnvy() {
        Due.under("FAIR: neither has ENVY");
        // RIGHT likes good 1 just as much, or by 1 less; so does LEFT good 0.
        dueFair("g5 5;g4 5;", 1, 2, 10, 0);
        dueFair("g5 5;g4 4;", 0, NONE, NONE, NONE);
        dueFair("g5 4;g5 5;", 1, 2, 10, 0);
        dueFair("g4 4;g5 5;", 0, NONE, NONE, NONE);
        dueFair("g1 0;", 1, 0, 1, 0);
        dueFair("g0 1;", 1, 1, 1, 0);
    }

    private static void bestOfSeveral() {
        Due.under("BEST: the FAIR one by which what both VALUE their own at is most together, of several the least bits");
        dueFair("g5 5;g5 5;", 2, 1, 10, 0);
        dueFair("g5 5;g5 5;g0 0;", 4, 1, 10, 0);
        dueFair("g5 5;g6 5;", 1, 1, 11, 0);
        // Good 2 is worth a little to RIGHT alone: more together goes ahead of the least bits.
        dueFair("g5 5;g5 5;g0 1;", 2, 5, 11, 0);
    }

    private static void mostTogether() {
        Due.under("BEST: .. as much");
        String all = "g20 0;".repeat(6) + "p0 1 20 0;".repeat(4);
        Due.is("LEFT has all: fair(1)", Due.told(all).fair(1), 0);
        Due.is("LEFT has all: fair(2)", Due.told(all).fair(2), 200);
        String right = "g0 20;".repeat(6) + "p0 1 0 20;".repeat(4);
        Due.is("RIGHT has all: fair(1)", Due.told(right).fair(1), 63);
        Due.is("RIGHT has all: fair(2)", Due.told(right).fair(2), 200);
    }

    private static void lostNothing() {
        Due.under("LOST: how much less that is than by the best PARTING, FAIR or not.");
        dueFair("g7 2;g3 9;", 1, 2, 16, 0);
        Due.is("worth nothing: fair(3)", Due.told(NOTHING).fair(3), 0);
    }

    private static void lostByFairness() {
        Due.under("LOST: how much less that is than by the best PARTING, FAIR or not.");
        // By the best parting LEFT has both: 40; a fair one leaves RIGHT one of them.
        dueFair("g20 1;g20 1;", 2, 1, 21, 19);
        dueFair("g1 20;g1 20;", 2, 1, 21, 19);
        dueFair("g20 1;g20 1;p0 1 20 0;", 2, 1, 21, 39);
    }

    private static void partingsAreOfAllGoods() {
        Due.under("PARTINGS: all ways to give all GOODS to LEFT or RIGHT (bits: those of RIGHT)");
        for (int whose = 0; whose < 3; whose++) {
            ShoesAtLaw x = Due.told("g20 1;g1 20;g0 0;");
            x.gives(0, whose);
            x.gives(1, whose);
            Due.is("whosever they are now: fair(0)", x.fair(0), 2);
            Due.is("whosever they are now: fair(1)", x.fair(1), 2);
            Due.is("whosever they are now: cut(0, 1)", x.cut(0, 1), 1);
            Due.is("whosever they are now: sell(9)", x.sell(9), 7);
            Due.is("whosever they are now: odds(5, 1)", x.odds(5, 1), 4);
        }
    }

    // ---- cut

    private static void dueCut(String text, int side, int has, int set) {
        Due.is("'" + text + "' cut(" + side + ", 0)", Due.told(text).cut(side, 0), has);
        Due.is("'" + text + "' cut(" + side + ", 1)", Due.told(text).cut(side, 1), set);
    }

    private static void numbersOfCut() {
        Due.under("CUT AND CHOOSE: what the first one has (what = 0), the set (1). BAD.");
        Bounds.are("cut(side, 0)", side -> Due.told("g7 2;g3 9;").cut(side, 0), 0, 7, 1, 9);
        Bounds.are("cut(0, what)", what -> Due.told("g7 2;g3 9;").cut(0, what), 0, 7, 1, 1);
        Bounds.are("cut(1, what)", what -> Due.told("g7 2;g3 9;").cut(1, what), 0, 9, 1, 1);
    }

    private static void cutNothing() {
        Due.under("a SIDE cuts all GOODS in two (a set of bits, and the rest)");
        for (int side = 0; side < 2; side++) {
            dueCut("", side, 0, 0);
            dueCut(NOTHING, side, 0, 0);
        }
    }

    private static void cutOneGood() {
        Due.under("the other one takes what it VALUES more");
        for (int side = 0; side < 2; side++) {
            dueCut("g20 20;", side, 0, 0);
            dueCut("g1 1;", side, 0, 0);
        }
    }

    private static void cutAlikeTakesTheRest() {
        Due.under("the other one takes what it VALUES more (if alike, the rest)");
        dueCut("g5 0;", 0, 5, 1);
        dueCut("g0 5;", 1, 5, 1);
        // RIGHT likes both alike and takes the rest; by 1 more or less it takes what it likes more, and leaves the other.
        dueCut("g9 5;g1 5;", 0, 9, 1);
        dueCut("g9 5;g1 6;", 0, 9, 1);
        dueCut("g9 6;g1 5;", 0, 1, 1);
        dueCut("g1 5;g9 5;", 0, 9, 2);
        dueCut("g1 6;g9 5;", 0, 9, 1);
        dueCut("g5 9;g6 1;", 1, 9, 1);
        dueCut("g5 1;g6 9;", 1, 1, 1);
    }

    private static void cutTheLeastOfSeveral() {
        Due.under("what the first one VALUES its part at is most; the set, of several the least");
        dueCut("g1 1;g1 1;", 0, 1, 1);
        dueCut("g1 1;g1 1;", 1, 1, 1);
        // RIGHT takes good 1, be it cut off or left: set 1 and set 2 do alike.
        dueCut("g7 2;g3 9;", 0, 7, 1);
        dueCut("g0 0;g5 0;", 0, 5, 2);
        dueCut("g5 0;g0 0;", 0, 5, 1);
    }

    private static void cutAll() {
        Due.under("what the first one VALUES its part at is most");
        dueCut("g20 0;".repeat(6) + "p0 1 20 0;".repeat(4), 0, 200, 63);
        dueCut("g0 20;".repeat(6) + "p0 1 0 20;".repeat(4), 1, 200, 63);
    }

    // ---- byTurns

    private static void dueTurns(ShoesAtLaw x, int side, int left, int right, int first) {
        int[] want = {left, right, first};
        for (int what = 0; what < want.length; what++) {
            Due.is("byTurns(" + side + ", " + what + ")", x.byTurns(side, what), want[what]);
        }
    }

    private static void numbersOfTurns() {
        Due.under("BY TURNS, a SIDE first: what LEFT, RIGHT VALUE their own at (what = 0, 1), the first GOOD (2; NONE). BAD.");
        Bounds.are("byTurns(side, 0)", side -> Due.told("g3 4;").byTurns(side, 0), 0, 3, 1, 0);
        Bounds.are("byTurns(side, 1)", side -> Due.told("g3 4;").byTurns(side, 1), 0, 0, 1, 4);
        Bounds.are("byTurns(0, what)", what -> Due.told("g3 4;").byTurns(0, what), 0, 3, 2, 0);
        Bounds.are("of none, byTurns(1, what)", what -> new ShoesAtLaw().byTurns(1, what), 0, 0, 2, NONE);
    }

    private static void turnsWithNoneOnTheTable() {
        Due.under("GOODS on the TABLE NOW are taken by turns .. the first GOOD taken (NONE)");
        for (int side = 0; side < 2; side++) {
            dueTurns(new ShoesAtLaw(), side, 0, 0, NONE);
            ShoesAtLaw x = Due.told("g3 4;g5 6;p0 1 7 8;");
            x.gives(0, side);
            x.gives(1, side);
            dueTurns(x, 0, side == 0 ? 15 : 0, side == 1 ? 18 : 0, NONE);
            dueTurns(x, 1, side == 0 ? 15 : 0, side == 1 ? 18 : 0, NONE);
        }
    }

    private static void turnsOfOne() {
        Due.under("GOODS on the TABLE NOW are taken by turns, one each time, a SIDE first");
        for (int g = 0; g < 6; g++) {
            ShoesAtLaw x = Due.told("g1 2;".repeat(6));
            for (int other = 0; other < 6; other++) {
                x.gives(other, other == g ? 2 : 0);
            }
            dueTurns(x, 0, 6, 0, g);
            dueTurns(x, 1, 5, 2, g);
        }
        dueTurns(Due.told("g0 0;"), 0, 0, 0, 0);
    }

    private static void turnsOfAll() {
        Due.under("GOODS on the TABLE NOW are taken by turns, one each time, a SIDE first");
        dueTurns(Due.told("g20 20;".repeat(6)), 0, 60, 60, 0);
        dueTurns(Due.told("g20 20;".repeat(5)), 0, 60, 40, 0);
        dueTurns(Due.told("g20 20;".repeat(5)), 1, 40, 60, 0);
        // Each is worth nothing but good 5: whoever is first takes it.
        dueTurns(Due.told("g0 0;".repeat(5) + "g1 1;"), 0, 1, 0, 5);
        dueTurns(Due.told("g0 0;".repeat(5) + "g1 1;"), 1, 0, 1, 5);
    }

    private static void turnsTakeTheLeastOfSeveral() {
        Due.under("of several GOODS that do alike it takes the least");
        dueTurns(Due.told(NOTHING), 0, 0, 0, 0);
        dueTurns(Due.told("g1 9;g1 1;"), 0, 1, 1, 0);
        dueTurns(Due.told("g1 1;g1 9;"), 0, 1, 9, 0);
        dueTurns(Due.told("g1 1;g2 9;"), 0, 2, 1, 1);
        ShoesAtLaw x = Due.told("g1 1;g1 9;g1 1;");
        x.gives(0, 0);
        dueTurns(x, 0, 2, 1, 1);
    }

    private static void turnsCountWhatEachHas() {
        Due.under("each wants in the end to VALUE its own (what it has NOW, too) as much as can be");
        // RIGHT takes the least of what is left, as all is worth nothing to it: LEFT must not leave it good 1.
        ShoesAtLaw x = Due.told("g0 0;g1 0;g5 0;p0 1 5 0;");
        dueTurns(x, 0, 6, 0, 1);
        x.gives(0, 0);
        dueTurns(x, 0, 6, 0, 1);
        x.gives(0, 1);
        dueTurns(x, 0, 5, 0, 2);
    }

    // ---- lies

    private static void dueLies(String text, int side, int much, int first) {
        Due.is("'" + text + "' lies(" + side + ", 0)", Due.told(text).lies(side, 0), much);
        Due.is("'" + text + "' lies(" + side + ", 1)", Due.told(text).lies(side, 1), first);
    }

    private static void numbersOfLies() {
        Due.under("LIES: how much (what = 0), the first (1; NONE). BAD.");
        Bounds.are("lies(side, 0)", side -> Due.told("g4 4;g3 3;").lies(side, 0), 0, 3, 1, 3);
        Bounds.are("lies(0, what)", what -> Due.told("g3 3;g4 4;").lies(0, what), 0, 3, 1, 4);
        Bounds.are("none, lies(1, what)", what -> new ShoesAtLaw().lies(1, what), 0, 0, 1, NONE);
    }

    private static void liesOfNothing() {
        Due.under("LIES of a SIDE: .. (0, if it is never more ..): how much; the first such lie (.. NONE)");
        for (int side = 0; side < 2; side++) {
            dueLies("", side, 0, NONE);
            dueLies(NOTHING, side, 0, NONE);
            dueLies("g20 20;", side, 0, NONE);
            dueLies("g20 20;g20 20;", side, 0, NONE);
        }
        dueLies("g20 0;", 0, 0, NONE);
    }

    private static void liesOfNought() {
        Due.under("it tells another WORTH to it of one GOOD (0 .. 20)");
        // LEFT leaves RIGHT one good at most of those it may have without envy. RIGHT has good 0 (15), if it says that goods
        // 1 and 2 are worth no more than that: 0, 2 and 13 more; by 14 more they are, and RIGHT has good 1 by saying that
        // good 0 is worth nothing.
        dueLies("g17 15;g3 10;g1 2;p2 1 18 13;", 1, 15, 100);
        dueLies("g17 15;g3 10;g1 2;p2 1 18 14;", 1, 10, 0);
    }

    private static void liesOfTwenty() {
        Due.under("it tells another WORTH to it of one GOOD (0 .. 20)");
        // RIGHT leaves LEFT one good at most. LEFT has good 0 (8), if it says that it is worth as much as goods 1 and 2: 5,
        // 4 and 11 more; by 12 more it would have to say 21, and has good 1 by saying that good 0 is worth nothing.
        dueLies("g8 17;g5 12;g4 8;p2 1 11 8;", 0, 8, 20);
        dueLies("g8 17;g5 12;g4 8;p2 1 12 8;", 0, 5, 0);
    }

    private static void liesTheFirst() {
        Due.under("the first such lie (100 times the GOOD, and the WORTH; NONE)");
        // Any WORTH of good 0 up to 3 does, and any of good 1 from 4 on: the first is of good 0, WORTH 0.
        dueLies("g4 4;g3 3;", 0, 3, 0);
        // Good 0 must be told at 4 or more; good 1 at 3 or less does as well, but comes behind.
        dueLies("g3 3;g4 4;", 0, 3, 4);
        dueLies("g0 0;g4 4;g3 3;", 0, 3, 1);
        // Goods 4 and 5 alone are worth anything: told of the others, only as much as the rest lacks.
        dueLies("g0 0;".repeat(4) + "g20 20;g18 18;", 0, 18, 2);
    }

    private static void liesWithoutBest() {
        Due.under("BEST that there is not is worth 0");
        Due.is("there is no BEST: fair(1)", Due.told("g20 20;g19 19;").fair(1), NONE);
        dueLies("g20 20;g19 19;", 0, 19, 0);
        dueLies("g20 20;g19 19;", 1, 19, 0);
        Due.under("then BEST is done by what is told (nothing, if there is none)");
        // By any lie of good 0 there is a BEST by which LEFT has no more, or none, by which it has nothing.
        dueLies("g5 5;g4 5;", 0, 0, NONE);
        dueLies("g1 0;", 0, 0, NONE);
    }

    private static void liesByBestOfWhatIsTold() {
        Due.under("then BEST is done by what is told");
        // LEFT has good 2, and good 1 as well once that is told at 3: as much together as RIGHT's having it, and less bits.
        dueLies("g0 3;g2 3;g5 0;", 0, 2, 103);
        // RIGHT has good 1, and good 0 as well once that is told at 3; told at 2 it is as much together, but more bits.
        dueLies("g2 1;g0 5;g2 1;", 1, 1, 3);
        // Good 1 told at 20 is just as much together, but more bits; it would have to be 21.
        dueLies("g20 0;g20 1;g0 20;", 1, 0, NONE);
        // Told that good 0 is worth 1, RIGHT envies LEFT unless it has both of the others.
        dueLies("g4 0;g3 2;g0 2;", 1, 2, 1);
        dueLies("g1 0;g3 0;g0 3;", 0, 0, NONE);
        dueLies("g0 1;g0 4;", 1, 0, NONE);
    }

    private static void liesToTheOtherWhoHasJustNoEnvy() {
        Due.under("FAIR: neither has ENVY");
        // LEFT has good 1, worth just as much to it as both of the others, which RIGHT has: it gets no more by any lie.
        dueLies("g1 4;g5 3;g4 5;", 1, 0, NONE);
        Due.is("good 0 is worth 1 to LEFT: fair(1)", Due.told("g1 4;g5 3;g4 5;").fair(1), 5);
        Due.is("good 0 is worth 2 to LEFT: fair(1)", Due.told("g2 4;g5 3;g4 5;").fair(1), NONE);
    }

    private static void liesByOneLess() {
        Due.under("it tells another WORTH to it of one GOOD");
        // RIGHT gets one good at most; good 1 is worth 1 less than the rest, and so the least lie of good 0 does.
        dueLies("g4 1;g4 5;g4 5;", 1, 5, 0);
        // Good 0 must be told at as much as good 1.
        dueLies("g1 1;g2 5;", 1, 1, 5);
    }

    private static void liesOfOneSideAndTheOther() {
        Due.under("(Nothing is changed.)");
        ShoesAtLaw x = Due.told("g4 0;g3 2;g0 2;");
        x.lies(0, 0);
        Due.is("lies(1, 0) behind lies(0, 0)", x.lies(1, 0), 2);
        Due.is("lies(1, 1)", x.lies(1, 1), 1);
        Due.is("lies(1, 1) again", x.lies(1, 1), 1);
    }

    // ---- sell

    private static void dueSale(String text, int c, int set) {
        Due.is("'" + text + "' sell(" + c + ")", Due.told(text).sell(c), set);
    }

    private static void numbersOfSell() {
        Due.under("SELL, as bits. BAD. (by c (0 .. 9) for each GOOD)");
        Bounds.are("sell(c)", c -> Due.told("g0 0;g9 9;g10 0;").sell(c), 0, 1, 9, 7);
        Bounds.are("of no goods, sell(c)", c -> new ShoesAtLaw().sell(c), 0, 0, 9, 0);
    }

    private static void sellNothing() {
        Due.under("SELL: of sets of GOODS (bits) those that neither VALUES above what a buyer pays");
        for (int c = 0; c <= 9; c++) {
            dueSale("", c, 0);
            dueSale("g20 0;", c, 0);
            dueSale("g0 20;", c, 0);
            dueSale("g10 0;", c, 0);
            dueSale("g0 10;", c, 0);
        }
    }

    private static void sellAll() {
        Due.under("the greatest such set (most GOODS, then the least bits)");
        dueSale(NOTHING, 0, 63);
        dueSale("g9 9;".repeat(6), 9, 63);
        dueSale("g9 9;".repeat(6), 8, 0);
    }

    private static void sellNotAboveThePrice() {
        Due.under("those that neither VALUES above what a buyer pays, by c (0 .. 9) for each GOOD");
        for (int c = 0; c <= 9; c++) {
            dueSale("g" + c + " 0;", c, 1);
            dueSale("g0 " + c + ";", c, 1);
            dueSale("g" + (c + 1) + " 0;", c, 0);
            dueSale("g0 " + (c + 1) + ";", c, 0);
            // A pair's more counts, too: both goods are sold for c each, if it comes to no more than both lack.
            dueSale("g0 0;g0 0;p0 1 " + 2 * c + " 0;", c, 3);
            dueSale("g0 0;g0 0;p0 1 0 " + (2 * c + 1) + ";", c, 1);
        }
    }

    private static void sellTheLeastOfSeveral() {
        Due.under("the greatest such set (most GOODS, then the least bits)");
        dueSale("g0 0;g0 0;p0 1 20 20;", 9, 1);
        dueSale("g9 9;g0 0;g0 0;p0 1 20 0;p0 2 20 0;", 9, 6);
        dueSale("g0 0;g0 0;g0 0;p0 1 20 0;", 0, 5);
        dueSale("g0 0;g1 0;g1 0;", 0, 1);
        dueSale("g1 0;g0 0;g0 0;g1 0;", 0, 6);
    }

    // ---- adds

    private static void numbersOfAdds() {
        Due.under("ADDS. BAD.");
        Bounds.are("adds(side)", side -> Due.told("g1 1;g1 1;p0 1 0 1;").adds(side), 0, 1, 1, 0);
        Bounds.are("of no goods, adds(side)", side -> new ShoesAtLaw().adds(side), 0, 1, 1, 1);
    }

    private static void addsAtNoMore() {
        Due.under("ADDS: whether (1, 0) a SIDE VALUES all GOODS at no more than their WORTH by itself (no PAIR counts).");
        for (int more = 0; more <= 20; more++) {
            ShoesAtLaw x = Due.told("g20 20;g0 0;p0 1 " + more + " 0;");
            Due.is("by " + more + ": adds(0)", x.adds(0), more == 0 ? 1 : 0);
            Due.is("by " + more + ": adds(1)", x.adds(1), 1);
        }
        ShoesAtLaw last = Due.told("g20 20;g0 0;" + "p0 1 0 0;".repeat(3) + "p0 1 0 1;");
        Due.is("the fourth pair: adds(0)", last.adds(0), 1);
        Due.is("the fourth pair: adds(1)", last.adds(1), 0);
    }

    // ---- odds

    private static void dueOdds(String text, int p, int upper, int lower) {
        Due.is("'" + text + "' odds(" + p + ", 0)", Due.told(text).odds(p, 0), upper);
        Due.is("'" + text + "' odds(" + p + ", 1)", Due.told(text).odds(p, 1), lower);
    }

    private static void numbersOfOdds() {
        Due.under("ODDS: upper (what = 0), lower number (1), in least terms. BAD. (by p (0 .. 10))");
        Bounds.are("odds(p, 0)", p -> Due.told("g1 0;").odds(p, 0), 0, 0, 10, 1);
        Bounds.are("odds(p, 1)", p -> Due.told("g1 0;").odds(p, 1), 0, 1, 10, 1);
        Bounds.are("odds(3, what)", what -> Due.told("g1 0;").odds(3, what), 0, 3, 1, 10);
    }

    private static void oddsOfNeverAndAlways() {
        Due.under("that the PARTING is FAIR: a fraction");
        for (int p = 0; p <= 10; p++) {
            dueOdds("", p, 1, 1);
            dueOdds(NOTHING, p, 1, 1);
            dueOdds("g20 20;", p, 0, 1);
            dueOdds("g20 20;" + "g1 1;".repeat(5), p, 0, 1);
        }
    }

    private static void oddsByNoughtAndTen() {
        Due.under("each GOOD comes to LEFT by p of 10, else to RIGHT");
        String left = "g1 0;".repeat(6);
        String right = "g0 1;".repeat(6);
        dueOdds(left, 10, 1, 1);
        dueOdds(left, 0, 0, 1);
        dueOdds(right, 10, 0, 1);
        dueOdds(right, 0, 1, 1);
        // One good that LEFT must have: p of 10; that RIGHT must have: the rest of 10.
        int[] lower = {1, 10, 5, 10, 5, 2, 5, 10, 5, 10, 1};
        for (int p = 0; p <= 10; p++) {
            dueOdds("g1 0;", p, p * lower[p] / 10, lower[p]);
            dueOdds("g0 1;", p, (10 - p) * lower[p] / 10, lower[p]);
        }
    }

    private static void oddsInLeastTerms() {
        Due.under("ODDS: upper (what = 0), lower number (1), in least terms.");
        // RIGHT must have good 1 and may have, of the others, what is worth 3 at most to LEFT: nothing, any one, or two of
        // goods 0, 3, 5. By p = 1: 9 * (1 + 5 * 9 + 3 * 81); by p = 9: 9^5 + 5 * 9^4 + 3 * 9^3.
        String text = "g1 0;g3 2;g3 0;g1 0;g3 0;g2 0;";
        dueOdds(text, 1, 2601, 1000000);
        dueOdds(text, 9, 94041, 1000000);
        dueOdds(text, 5, 9, 64);
        // LEFT must have one of two goods at least: 1 less a lot that gives both to RIGHT.
        dueOdds("g1 0;g1 0;", 2, 9, 25);
        dueOdds("g1 0;g1 0;", 5, 3, 4);
    }
}
