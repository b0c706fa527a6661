/** Promises 12 to 18: partings, cut and choose, turns, lies, sales, odds. */
public final class PartingsTest {
    private static final int BAD = ShoesAtLaw.BAD, NONE = ShoesAtLaw.NONE;

    public static void main(String[] args) {
        fairPartings();
        fairDoesNotLookAtNow();
        cutAndChoose();
        turns();
        turnsLookAtNow();
        turnsOfGoodsThatDoAlike();
        lies();
        sales();
        adding();
        odds();
        badNumbers();
        Due.end();
    }

    private static void dueFair(String text, int many, int best, int much, int lost) {
        ShoesAtLaw x = Due.told(text);
        int[] want = {many, best, much, lost};
        for (int what = 0; what < want.length; what++) {
            Due.is("'" + text + "' fair(" + what + ")", x.fair(what), want[what]);
        }
    }

    private static void fairPartings() {
        dueFair("", 1, 0, 0, 0);
        dueFair("g20 20;", 0, NONE, NONE, NONE);
        dueFair("g0 0;", 2, 0, 0, 0);
        dueFair("g3 0;", 1, 0, 3, 0);
        dueFair("g0 3;", 1, 1, 3, 0);
        dueFair("g10 9;g10 9;", 2, 1, 19, 1);
        dueFair("g9 10;g9 10;", 2, 1, 19, 1);
        dueFair("g7 2;g3 9;", 1, 2, 16, 0);
        dueFair("g4 4;g3 3;", 0, NONE, NONE, NONE);
        // A pair that LEFT alone wants: it has both, and RIGHT must like the third as much.
        dueFair("g1 1;g1 1;g1 2;p0 1 5 0;", 1, 4, 9, 0);
        dueFair("g20 20;g20 20;g20 20;g20 20;p0 1 20 20;p2 3 20 20;", 6, 3, 120, 0);
    }

    private static void fairDoesNotLookAtNow() {
        ShoesAtLaw x = Due.told("g10 9;g10 9;");
        x.gives(0, 0);
        x.gives(1, 0);
        Due.is("given all: fair(0)", x.fair(0), 2);
        Due.is("given all: fair(1)", x.fair(1), 1);
        Due.is("given all: cut(0, 1)", x.cut(0, 1), 1);
        Due.is("given all: odds(5, 1)", x.odds(5, 1), 2);
        Due.is("given all: now(0)", x.now(0), 3);
    }

    private static void dueCut(String text, int side, int has, int set) {
        ShoesAtLaw x = Due.told(text);
        Due.is("'" + text + "' cut(" + side + ", 0)", x.cut(side, 0), has);
        Due.is("'" + text + "' cut(" + side + ", 1)", x.cut(side, 1), set);
    }

    private static void cutAndChoose() {
        dueCut("", 0, 0, 0);
        dueCut("", 1, 0, 0);
        dueCut("g10 9;g10 9;", 0, 10, 1);
        // The one who chooses takes the set, and leaves the rest.
        dueCut("g1 9;g5 2;", 0, 5, 1);
        dueCut("g1 9;g5 2;", 1, 9, 1);
        // Of two parts alike the rest is taken: the cutter keeps the set.
        dueCut("g4 0;", 0, 4, 1);
        dueCut("g0 4;", 1, 4, 1);
        dueCut("g0 7;g7 0;", 0, 7, 1);
        dueCut("g1 5;g9 5;", 0, 9, 2);
        dueCut("g9 5;g1 5;", 0, 9, 1);
        dueCut("g1 1;g1 1;g1 2;p0 1 5 0;", 0, 7, 3);
    }

    private static void dueTurns(ShoesAtLaw x, int side, int left, int right, int first) {
        int[] want = {left, right, first};
        for (int what = 0; what < want.length; what++) {
            Due.is("byTurns(" + side + ", " + what + ")", x.byTurns(side, what), want[what]);
        }
    }

    private static void turns() {
        dueTurns(new ShoesAtLaw(), 0, 0, 0, NONE);
        dueTurns(Due.told("g3 4;"), 0, 3, 0, 0);
        dueTurns(Due.told("g3 4;"), 1, 0, 4, 0);
        dueTurns(Due.told("g5 5;g4 4;g3 3;"), 0, 8, 4, 0);
        dueTurns(Due.told("g5 5;g4 4;g3 3;"), 1, 4, 8, 0);
        dueTurns(Due.told("g9 0;g5 9;"), 1, 9, 9, 1);
        dueTurns(Due.told("g9 0;g5 9;g8 8;"), 0, 17, 9, 0);
        // LEFT takes what RIGHT wants first: its own best is of no worth to RIGHT.
        dueTurns(Due.told("g9 0;g5 5;g8 8;"), 0, 17, 5, 2);
        dueTurns(Due.told("g5 3;g2 6;g4 4;p0 1 7 0;p1 2 0 5;"), 0, 14, 4, 1);
        dueTurns(Due.told("g5 3;g2 6;g4 4;p0 1 7 0;p1 2 0 5;"), 1, 5, 15, 1);
    }

    private static void turnsLookAtNow() {
        ShoesAtLaw x = Due.told("g0 0;g3 3;g5 5;p0 1 10 0;");
        x.gives(0, 0);
        dueTurns(x, 0, 13, 5, 1);
        dueTurns(x, 1, 13, 5, 2);
        x.gives(0, 1);
        dueTurns(x, 0, 5, 3, 2);
        x.gives(1, 1);
        x.gives(2, 1);
        dueTurns(x, 0, 0, 8, NONE);
        dueTurns(x, 1, 0, 8, NONE);
        Due.is("nothing was taken", x.now(1), 7);
    }

    private static void turnsOfGoodsThatDoAlike() {
        dueTurns(Due.told("g1 1;g1 9;"), 0, 1, 9, 0);
        dueTurns(Due.told("g1 9;g1 1;"), 0, 1, 1, 0);
        dueTurns(Due.told("g9 1;g1 1;"), 1, 1, 1, 0);
        dueTurns(Due.told("g0 0;g0 0;g0 0;g0 0;g0 0;g0 0;"), 1, 0, 0, 0);
    }

    private static void dueLies(String text, int side, int much, int first) {
        ShoesAtLaw x = Due.told(text);
        Due.is("'" + text + "' lies(" + side + ", 0)", x.lies(side, 0), much);
        Due.is("'" + text + "' lies(" + side + ", 1)", x.lies(side, 1), first);
        Due.is("'" + text + "' good(0, 0) is as it was", x.good(0, 0), Due.told(text).good(0, 0));
    }

    private static void lies() {
        dueLies("", 0, 0, NONE);
        dueLies("", 1, 0, NONE);
        dueLies("g20 20;", 0, 0, NONE);
        dueLies("g10 9;g10 9;", 0, 0, NONE);
        // There is no BEST, and what a lie brings about is gained whole.
        dueLies("g4 4;g3 3;", 0, 3, 0);
        dueLies("g4 4;g3 3;", 1, 3, 0);
        dueLies("g5 5;g5 5;g1 2;", 0, 5, 0);
        dueLies("g3 3;g4 4;", 0, 3, 4);
        dueLies("g0 0;g4 4;g3 3;", 0, 3, 1);
        // By a lie of good 0 LEFT gets only what is worth nothing to it: the first that gains is of good 1.
        dueLies("g0 8;g4 7;g4 6;p0 1 5 0;p0 2 5 0;", 0, 4, 109);
        // RIGHT likes both goods alike: LEFT has the one or the other, and says which.
        dueLies("g5 5;g4 5;", 0, 0, NONE);
        dueLies("g4 5;g4 5;p0 1 9 0;", 0, 0, NONE);
        dueLies("g7 5;g6 5;p0 1 9 0;", 1, 0, NONE);
        String run3 = "g9 8;g3 7;g6 6;g1 2;g0 4;g20 1;p0 3 10 10;p1 4 0 9;p0 3 2 2;p5 2 20 0;h3;c1;";
        dueLies(run3, 0, 9, 20);
        dueLies(run3, 1, 0, NONE);
    }

    private static void dueSale(String text, int c, int set) {
        Due.is("'" + text + "' sell(" + c + ")", Due.told(text).sell(c), set);
    }

    private static void sales() {
        String text = "g4 4;g5 3;p0 1 1 0;";
        dueSale(text, 0, 0);
        dueSale(text, 3, 0);
        dueSale(text, 4, 1);
        dueSale(text, 5, 3);
        dueSale(text, 9, 3);
        dueSale("", 9, 0);
        dueSale("g0 0;", 0, 1);
        dueSale("g1 1;g1 1;p0 1 5 5;", 1, 1);
        dueSale("g1 5;g5 1;g2 2;", 2, 4);
        dueSale("g1 5;g5 1;g2 2;", 3, 7);
        dueSale("g9 0;g1 1;g1 1;", 1, 6);
    }

    private static void adding() {
        ShoesAtLaw x = Due.told("g1 1;g1 1;p0 1 0 3;");
        Due.is("no more to LEFT", x.adds(0), 1);
        Due.is("more to RIGHT", x.adds(1), 0);
        ShoesAtLaw none = Due.told("g20 20;g20 20;");
        Due.is("no pairs", none.adds(0), 1);
        ShoesAtLaw nothing = Due.told("g20 20;g20 20;p0 1 0 0;");
        Due.is("a pair of no more", nothing.adds(1), 1);
    }

    private static void dueOdds(String text, int p, int upper, int lower) {
        ShoesAtLaw x = Due.told(text);
        Due.is("'" + text + "' odds(" + p + ", 0)", x.odds(p, 0), upper);
        Due.is("'" + text + "' odds(" + p + ", 1)", x.odds(p, 1), lower);
    }

    private static void odds() {
        dueOdds("", 0, 1, 1);
        dueOdds("", 10, 1, 1);
        dueOdds("g5 5;g5 5;", 5, 1, 2);
        dueOdds("g5 5;g5 5;", 3, 21, 50);
        dueOdds("g5 5;g5 5;", 0, 0, 1);
        dueOdds("g5 5;g5 5;", 10, 0, 1);
        dueOdds("g10 0;", 7, 7, 10);
        dueOdds("g0 10;", 7, 3, 10);
        dueOdds("g10 0;", 10, 1, 1);
        dueOdds("g10 0;", 0, 0, 1);
        String six = "g1 0;g1 0;g1 0;g1 0;g1 0;g1 0;";
        dueOdds(six, 5, 21, 32);
        dueOdds(six, 1, 317, 20000);
        dueOdds("g0 0;g0 0;g0 0;g0 0;g0 0;g0 0;", 3, 1, 1);
        dueOdds("g0 0;g0 0;g0 0;g0 0;g0 0;g20 0;", 3, 3, 10);
        // LEFT must have good 1, be good 0 whose it will.
        dueOdds("g1 0;g20 0;p0 1 20 0;", 3, 3, 10);
    }

    private static void badNumbers() {
        ShoesAtLaw x = Due.told("g10 9;g10 9;");
        int[] ill = {-1, 2};
        for (int side : ill) {
            Due.is("cut(" + side + ", 0)", x.cut(side, 0), BAD);
            Due.is("byTurns(" + side + ", 0)", x.byTurns(side, 0), BAD);
            Due.is("lies(" + side + ", 0)", x.lies(side, 0), BAD);
            Due.is("adds(" + side + ")", x.adds(side), BAD);
            Due.is("cut(0, " + side + ")", x.cut(0, side), BAD);
            Due.is("lies(1, " + side + ")", x.lies(1, side), BAD);
            Due.is("odds(5, " + side + ")", x.odds(5, side), BAD);
        }
        Due.is("fair(-1)", x.fair(-1), BAD);
        Due.is("fair(4)", x.fair(4), BAD);
        Due.is("byTurns(0, -1)", x.byTurns(0, -1), BAD);
        Due.is("byTurns(0, 3)", x.byTurns(0, 3), BAD);
        Due.is("sell(-1)", x.sell(-1), BAD);
        Due.is("sell(10)", x.sell(10), BAD);
        Due.is("odds(-1, 0)", x.odds(-1, 0), BAD);
        Due.is("odds(11, 0)", x.odds(11, 0), BAD);
    }
}
