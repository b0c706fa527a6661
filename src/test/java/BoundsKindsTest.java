/** Promises 27 to 31, and what "Terms" says of what is read anew: every sentence that names a bound. */
public final class BoundsKindsTest {
    private static final int BAD = ShoesAtLaw.BAD, STATE = ShoesAtLaw.STATE, NO = ShoesAtLaw.NO;
    private static final String MOST = "g20 20;".repeat(6) + "p0 1 20 20;".repeat(4);

    public static void main(String[] args) {
        kindsOfRate();
        sidesOfRate();
        rateOfNothing();
        rateTheMost();
        rateBelowNought();
        rateOfTheTable();
        traceAtFirst();
        traceOfEachKind();
        traceOfRefusedRates();
        traceOfOtherCalls();
        traceGoesOn();
        imagesToKeep();
        imagesToGoBackTo();
        imagesNotKept();
        imagesOfNothing();
        imagesOfAll();
        imagesAreTwo();
        imagesKeptAgain();
        imagesKeepNothingElse();
        nothingUndoneBehindBack();
        whatOfCount();
        countsOfNothing();
        countsOfAll();
        readAnewAsTold();
        readAnewNoSteps();
        readAnewNothingSeen();
        readAnewImagesAreGone();
        readAnewNothingUndone();
        readAnewTraceGoesOn();
        readAnewOfNothing();
        readAnewAgainAndAgain();
        fiveHundredAndTwelveCalls();
        Due.end();
    }

    /** An object with all that there may be, all of it a side's, who made all the steps. */
    private static ShoesAtLaw rich(int side) {
        ShoesAtLaw x = Due.told(MOST);
        for (int g = 0; g < 6; g++) {
            x.gives(g, side);
        }
        Due.walk(x, (side == 0 ? "0" : "1").repeat(60));
        return x;
    }

    // ---- rate

    private static void kindsOfRate() {
        Due.under("RATE. NO: BAD. (KINDS 0 .. 5)");
        Bounds.are("rate(kind, 0)", kind -> rich(0).rate(kind, 0), NO, 0, 5);
        Bounds.are("rate(kind, 1)", kind -> rich(0).rate(kind, 1), NO, 0, 5);
        Bounds.are("of nothing, rate(kind, 0)", kind -> new ShoesAtLaw().rate(kind, 0), NO, 0, 5);
    }

    private static void sidesOfRate() {
        Due.under("RATE. NO: BAD. (a SIDE: 0, 1)");
        for (int kind = 0; kind < 6; kind++) {
            int asked = kind;
            Bounds.are("rate(" + kind + ", side)", side -> rich(0).rate(asked, side), NO, 0, 1);
        }
        Due.is("neither is as told: rate(6, 2)", rich(0).rate(6, 2), NO);
        Due.is("neither is as told: rate(-1, -1)", rich(0).rate(-1, -1), NO);
    }

    private static void rateOfNothing() {
        Due.under("RATE of a SIDE as if by a KIND");
        for (int kind = 0; kind < 6; kind++) {
            for (int side = 0; side < 2; side++) {
                Due.is("of nothing: rate(" + kind + ", " + side + ")", new ShoesAtLaw().rate(kind, side), kind == 4 ? side : 0);
            }
        }
    }

    private static void rateTheMost() {
        Due.under("RATE of a SIDE as if by a KIND");
        int[] most = {200, 260, 200, 520, 200, 200};
        for (int side = 0; side < 2; side++) {
            for (int kind = 0; kind < 6; kind++) {
                Due.is("the most: rate(" + kind + ", " + side + ")", rich(side).rate(kind, side), most[kind] + (kind == 4 ? side : 0));
            }
        }
    }

    private static void rateBelowNought() {
        Due.under("NO = -1000000: What none is, where a number may be below 0.");
        int[] least = {0, 0, -200, 0, -200, 0};
        for (int side = 0; side < 2; side++) {
            for (int kind = 0; kind < 6; kind++) {
                Due.is("the least: rate(" + kind + ", " + side + ")", rich(1 - side).rate(kind, side), least[kind] + (kind == 4 ? side : 0));
            }
        }
        // Answers that are BAD and NONE elsewhere are ones like others here.
        ShoesAtLaw one = Due.told("g1 9;");
        one.gives(0, 1);
        Due.is("rate(2, 0)", one.rate(2, 0), -1);
        one.gives(0, 0);
        Due.is("rate(2, 1)", one.rate(2, 1), -9);
    }

    private static void rateOfTheTable() {
        Due.under("THIRD up, and how many GOODS are on the TABLE");
        for (int laid = 0; laid <= 6; laid++) {
            ShoesAtLaw x = Due.told("g1 1;".repeat(6));
            for (int g = laid; g < 6; g++) {
                x.gives(g, 1);
            }
            Due.is(laid + " on the table: rate(5, 0)", x.rate(5, 0), laid);
            Due.is(laid + " on the table: rate(5, 1)", x.rate(5, 1), 6);
        }
    }

    // ---- trace

    private static void traceAtFirst() {
        Due.under("THE TRACE, 0 at first");
        Due.is("trace()", new ShoesAtLaw().trace(), 0);
        Due.is("trace() of a suit", Due.told(MOST).trace(), 0);
    }

    private static void traceOfEachKind() {
        Due.under("numbers in brackets are added to THE TRACE .. as often as rate() asks that body: each once");
        long[] added = {1, 11, 101, 1011, 10101, 100001};
        for (int kind = 0; kind < 6; kind++) {
            for (int side = 0; side < 2; side++) {
                ShoesAtLaw x = rich(side);
                x.rate(kind, side);
                Due.is("rate(" + kind + ", " + side + "): trace()", x.trace(), added[kind]);
                x.rate(kind, 1 - side);
                Due.is("and of the other side: trace()", x.trace(), 2 * added[kind]);
            }
        }
    }

    private static void traceOfRefusedRates() {
        Due.under("Refused, and nothing changes");
        ShoesAtLaw x = rich(0);
        for (int number : Bounds.beyond(0, 5)) {
            x.rate(number, 0);
        }
        for (int number : Bounds.beyond(0, 1)) {
            x.rate(5, number);
        }
        Due.is("trace()", x.trace(), 0);
    }

    private static void traceOfOtherCalls() {
        Due.under("as often as rate() asks that body");
        ShoesAtLaw x = rich(0);
        x.envy(0);
        x.values(0, 63);
        x.fair(2);
        x.cut(0, 0);
        x.byTurns(0, 0);
        x.lies(0, 0);
        x.judge(0);
        x.keep(0);
        x.back(0);
        Due.is("trace()", x.trace(), 0);
    }

    private static void traceGoesOn() {
        Due.under("THE TRACE goes on, as behind undo(), back()");
        ShoesAtLaw x = rich(0);
        x.keep(0);
        x.rate(5, 0);
        x.undo();
        Due.is("behind undo(): trace()", x.trace(), 100001);
        x.rate(0, 0);
        x.back(0);
        Due.is("behind back(): trace()", x.trace(), 100002);
        x.rate(0, 0);
        Due.is("and on: trace()", x.trace(), 100003);
    }

    // ---- images

    private static void imagesToKeep() {
        Due.under("An IMAGE is kept: STEPS. BAD. (IMAGES 0, 1)");
        Bounds.are("keep(image)", image -> rich(0).keep(image), 0, 60, 1, 60);
        Bounds.are("of nothing, keep(image)", image -> new ShoesAtLaw().keep(image), 0, 0, 1, 0);
    }

    private static void imagesToGoBackTo() {
        Due.under("All of that becomes as an IMAGE has it: STEPS. BAD");
        Bounds.are("back(image)", image -> {
            ShoesAtLaw x = rich(0);
            x.keep(0);
            x.undo();
            x.keep(1);
            return x.back(image);
        }, 0, 60, 1, 59);
    }

    private static void imagesNotKept() {
        Due.under("BAD; STATE: none was kept.");
        for (int image = 0; image < 2; image++) {
            Due.is("none was kept: back(" + image + ")", new ShoesAtLaw().back(image), STATE);
            ShoesAtLaw x = rich(0);
            x.keep(1 - image);
            Due.is("the other one was kept: back(" + image + ")", x.back(image), STATE);
            Due.is("a refused back() loses nothing: now(4)", x.now(4), 10);
            x.keep(2);
            x.keep(-1);
            Due.is("a refused keep() keeps nothing: back(" + image + ")", x.back(image), STATE);
        }
        for (int image : Bounds.beyond(0, 1)) {
            Due.is("there is none such, be one kept or not: back(" + image + ")", new ShoesAtLaw().back(image), BAD);
        }
    }

    private static void imagesOfNothing() {
        Due.under("IMAGES 0, 1 keep NOW (whose GOODS are, STEPS)");
        ShoesAtLaw x = Due.told(MOST);
        Due.is("keep(0)", x.keep(0), 0);
        x.gives(5, 1);
        x.gives(0, 0);
        x.steps(1);
        Due.is("back(0)", x.back(0), 0);
        Due.is("all is on the table again: now(2)", x.now(2), 63);
        Due.is("foot(0)", x.foot(0), BAD);
        Due.is("worn(1, 0)", x.worn(1, 0), 0);
        ShoesAtLaw none = new ShoesAtLaw();
        none.keep(1);
        none.steps(0);
        Due.is("of no goods: back(1)", none.back(1), 0);
    }

    private static void imagesOfAll() {
        Due.under("IMAGES 0, 1 keep NOW (whose GOODS are, STEPS)");
        ShoesAtLaw x = rich(1);
        Due.is("keep(1)", x.keep(1), 60);
        for (int i = 0; i < 10; i++) {
            x.undo();
        }
        for (int g = 0; g < 6; g++) {
            x.gives(g, 0);
        }
        Due.walk(x, "0".repeat(10));
        Due.is("back(1)", x.back(1), 60);
        Due.is("now(1)", x.now(1), 63);
        for (int i = 0; i < 60; i++) {
            Due.is("foot(" + i + ")", x.foot(i), 1);
        }
        Due.is("still full: steps(0)", x.steps(0), ShoesAtLaw.FULL);
    }

    private static void imagesAreTwo() {
        Due.under("IMAGES 0, 1 keep NOW");
        ShoesAtLaw x = Due.told("g1 1;g1 1;");
        x.gives(0, 0);
        x.steps(0);
        x.keep(0);
        x.gives(0, 1);
        x.steps(1);
        x.keep(1);
        Due.is("back(0)", x.back(0), 1);
        Due.is("now(0)", x.now(0), 1);
        Due.is("back(1)", x.back(1), 2);
        Due.is("now(0)", x.now(0), 0);
        Due.is("now(1)", x.now(1), 1);
        Due.is("foot(1)", x.foot(1), 1);
        Due.is("back(0) again", x.back(0), 1);
        Due.is("foot(1)", x.foot(1), BAD);
    }

    private static void imagesKeptAgain() {
        Due.under("An IMAGE is kept: STEPS.");
        ShoesAtLaw x = Due.told("g1 1;");
        x.steps(0);
        x.keep(0);
        x.gives(0, 1);
        x.steps(1);
        Due.is("kept again: keep(0)", x.keep(0), 2);
        x.steps(1);
        Due.is("back(0)", x.back(0), 2);
        Due.is("now(1)", x.now(1), 1);
        x.steps(0);
        x.gives(0, 0);
        Due.is("what is done behind back() is not the image's: back(0)", x.back(0), 2);
        Due.is("now(1)", x.now(1), 1);
    }

    private static void imagesKeepNothingElse() {
        Due.under("IMAGES 0, 1 keep NOW (whose GOODS are, STEPS); nothing else");
        ShoesAtLaw x = Due.told("g1 2;h3;c2;");
        x.saw(0, 0, 1);
        x.type('g');
        x.rate(0, 0);
        x.keep(0);
        x.forget();
        x.clear();
        x.rate(0, 0);
        x.back(0);
        Due.is("nothing is SEEN: count(4)", x.count(4), 0);
        Due.is("the text is empty: count(5)", x.count(5), 0);
        Due.is("the trace goes on: trace()", x.trace(), 2);
        x.keep(1);
        x.saw(1, 1, 1);
        Due.type(x, "g1 ");
        x.back(1);
        Due.is("what is SEEN stays: count(4)", x.count(4), 1);
        Due.is("the text stays: count(5)", x.count(5), 3);
        Due.is("the suit stays: count(0)", x.count(0), 1);
        Due.is("the suit stays: count(2)", x.count(2), 3);
        Due.is("the suit stays: count(3)", x.count(3), 2);
    }

    private static void nothingUndoneBehindBack() {
        Due.under("nothing can be UNDONE behind back()");
        ShoesAtLaw x = rich(0);
        x.keep(0);
        Due.is("behind keep() as much as ever: now(4)", x.now(4), 10);
        x.back(0);
        Due.is("now(4)", x.now(4), 0);
        Due.is("undo()", x.undo(), STATE);
        Due.is("now(3)", x.now(3), 60);
        x.gives(0, 2);
        Due.is("what was done since may be: undo()", x.undo(), 0);
        Due.is("and no more: undo()", x.undo(), STATE);
        x.gives(0, 2);
        x.keep(1);
        Due.is("one can be UNDONE behind keep(): undo()", x.undo(), 0);
    }

    // ---- count

    private static void whatOfCount() {
        Due.under("0 GOODS, 1 PAIRS, 2 HOPS, 3 CELLS, 4 SEEN, 5 letters of THE TEXT. BAD.");
        Bounds.are("count(what)", what -> Due.told(MOST).count(what), 0, 6, 5, 0);
        Bounds.are("of nothing, count(what)", what -> new ShoesAtLaw().count(what), 0, 0, 5, 0);
    }

    private static void dueCounts(ShoesAtLaw x, int... counts) {
        for (int what = 0; what < counts.length; what++) {
            Due.is("count(" + what + ")", x.count(what), counts[what]);
        }
    }

    private static void countsOfNothing() {
        Due.under("0 GOODS, 1 PAIRS, 2 HOPS, 3 CELLS, 4 SEEN, 5 letters of THE TEXT.");
        dueCounts(new ShoesAtLaw(), 0, 0, 1, 6, 0, 0);
        dueCounts(Due.told("h0;c1;"), 0, 0, 0, 1, 0, 0);
    }

    private static void countsOfAll() {
        Due.under("0 GOODS, 1 PAIRS, 2 HOPS, 3 CELLS, 4 SEEN, 5 letters of THE TEXT.");
        ShoesAtLaw x = Due.told(MOST + "h3;c6;");
        for (int i = 0; i < 7; i++) {
            x.saw(0, 0, 0);
        }
        Due.type(x, "c".repeat(201));
        dueCounts(x, 6, 4, 3, 6, 6, 200);
    }

    // ---- read anew

    private static ShoesAtLaw readAnew() {
        ShoesAtLaw x = Due.told("g5 6;g7 8;g9 10;p0 1 2 3;p1 2 4 5;h3;c2;");
        x.gives(0, 0);
        x.gives(1, 1);
        Due.walk(x, "0011");
        x.saw(0, 0, 9);
        x.saw(1, 1, 9);
        x.keep(0);
        x.keep(1);
        x.rate(3, 0);
        Due.retell(x, "g1 2;g3 4;");
        return x;
    }

    private static void readAnewAsTold() {
        Due.under("Read anew: as told (what is not told as at first)");
        ShoesAtLaw x = readAnew();
        dueCounts(x, 2, 0, 1, 6);
        Due.is("all is on the table: now(2)", x.now(2), 3);
        Due.is("now(0)", x.now(0), 0);
        Due.is("now(1)", x.now(1), 0);
        Due.is("values(0, 3)", x.values(0, 3), 4);
        Due.is("values(1, 3)", x.values(1, 3), 6);
        Due.is("values(0, 4)", x.values(0, 4), BAD);
    }

    private static void readAnewNoSteps() {
        Due.under("Read anew: .. no STEPS");
        ShoesAtLaw x = readAnew();
        Due.is("now(3)", x.now(3), 0);
        Due.is("foot(0)", x.foot(0), BAD);
        Due.is("worn(0, 0)", x.worn(0, 0), 0);
        Due.is("worn(1, 0)", x.worn(1, 0), 0);
        Due.is("judge(1)", x.judge(1), 0);
        Due.is("steps(1)", x.steps(1), 1);
    }

    private static void readAnewNothingSeen() {
        Due.under("Read anew: .. nothing SEEN");
        ShoesAtLaw x = readAnew();
        Due.is("count(4)", x.count(4), 0);
        Due.is("asTold()", x.asTold(), 1);
        Due.is("forget()", x.forget(), 0);
    }

    private static void readAnewImagesAreGone() {
        Due.under("Read anew: .. IMAGES are gone");
        Due.is("back(0)", readAnew().back(0), STATE);
        Due.is("back(1)", readAnew().back(1), STATE);
        ShoesAtLaw x = readAnew();
        Due.is("kept anew: keep(1)", x.keep(1), 0);
        Due.is("back(1)", x.back(1), 0);
        Due.is("back(0)", x.back(0), STATE);
    }

    private static void readAnewNothingUndone() {
        Due.under("Read anew: .. nothing can be UNDONE");
        ShoesAtLaw x = readAnew();
        Due.is("now(4)", x.now(4), 0);
        Due.is("undo()", x.undo(), STATE);
    }

    private static void readAnewTraceGoesOn() {
        Due.under("Read anew: .. THE TRACE goes on");
        ShoesAtLaw x = readAnew();
        Due.is("trace()", x.trace(), 1011);
        x.rate(0, 0);
        Due.is("and on: trace()", x.trace(), 1012);
    }

    private static void readAnewOfNothing() {
        Due.under("Read anew: as told (what is not told as at first), no STEPS, nothing SEEN, IMAGES are gone, nothing can be UNDONE");
        ShoesAtLaw x = rich(0);
        x.saw(0, 0, 0);
        x.keep(0);
        x.keep(1);
        Due.is("suit() of nothing", x.suit(), 0);
        dueCounts(x, 0, 0, 1, 6, 0, 0);
        for (int what = 0; what < 5; what++) {
            Due.is("now(" + what + ")", x.now(what), 0);
        }
        Due.is("back(0)", x.back(0), STATE);
        Due.is("back(1)", x.back(1), STATE);
        Due.is("undo()", x.undo(), STATE);
    }

    private static void readAnewAgainAndAgain() {
        Due.under("Read anew: as told (what is not told as at first)");
        ShoesAtLaw x = Due.told("g1 1;".repeat(6) + "p0 1 20 20;".repeat(4) + "h3;c1;");
        for (int i = 0; i < 4; i++) {
            Due.retell(x, "g1 1;g2 2;");
            dueCounts(x, 2, 0, 1, 6, 0, 0);
            Due.is("no pair is left: values(0, 3)", x.values(0, 3), 3);
            Due.retell(x, "g1 1;g2 2;g3 3;p1 2 " + i + " 5;h0;c2;");
            dueCounts(x, 3, 1, 0, 2, 0, 0);
            Due.is("one pair: values(0, 7)", x.values(0, 7), 6 + i);
            Due.is("one pair: values(1, 7)", x.values(1, 7), 11);
            Due.is("no pair of 0 and 1: values(1, 3)", x.values(1, 3), 3);
        }
    }

    // ---- the object

    private static void fiveHundredAndTwelveCalls() {
        Due.under("An object is used for at most 512 calls after it has been made");
        ShoesAtLaw rated = new ShoesAtLaw();
        for (int i = 0; i < 511; i++) {
            rated.rate(5, 0);
        }
        Due.is("the 512th call: trace()", rated.trace(), 511L * 100001);
        ShoesAtLaw given = new ShoesAtLaw();
        Due.type(given, "g1 1;");
        given.suit();
        for (int i = 0; i < 505; i++) {
            Due.is("gives()", given.gives(0, i % 3), i == 0 ? 2 : (i - 1) % 3);
        }
        Due.is("the 512th call: undo()", given.undo(), 9);
        ShoesAtLaw typed = new ShoesAtLaw();
        for (int i = 1; i <= 511; i++) {
            Due.is("type(32)", typed.type(32), i <= 200 ? i : ShoesAtLaw.FULL);
        }
        Due.is("the 512th call: suit()", typed.suit(), 0);
        ShoesAtLaw again = new ShoesAtLaw();
        for (int i = 0; i < 256; i++) {
            Due.is("steps()", again.steps(1), 1);
            Due.is("undo()", again.undo(), 0);
        }
    }
}
