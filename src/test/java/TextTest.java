/** Promises 1 to 4 and 30: a new object, the text and what it tells. */
public final class TextTest {
    public static void main(String[] args) {
        newObject();
        typing();
        clearing();
        itemsAndBlanks();
        faultsOfLetters();
        faultsOfNumbers();
        faultsOfItems();
        textsThatEndTooEarly();
        suitRefusedChangesNothing();
        suitTellsAllAnew();
        suitsAgainAndAgain();
        counts();
        Due.end();
    }

    private static void newObject() {
        ShoesAtLaw x = new ShoesAtLaw();
        int[] first = {0, 0, 1, 6, 0, 0};
        for (int what = 0; what < first.length; what++) {
            Due.is("new: count(" + what + ")", x.count(what), first[what]);
        }
        for (int what = 0; what < 5; what++) {
            Due.is("new: now(" + what + ")", x.now(what), 0);
        }
        Due.is("new: trace()", x.trace(), 0);
        Due.is("new: undo()", x.undo(), ShoesAtLaw.STATE);
        Due.is("new: back(0)", x.back(0), ShoesAtLaw.STATE);
        Due.is("new: back(1)", x.back(1), ShoesAtLaw.STATE);
        Due.is("new: good(0, 0)", x.good(0, 0), ShoesAtLaw.BAD);
        Due.is("new: values(0, 0)", x.values(0, 0), 0);
        Due.is("new: values(0, 1)", x.values(0, 1), ShoesAtLaw.BAD);
        Due.is("new: gives(0, 0)", x.gives(0, 0), ShoesAtLaw.BAD);
        Due.is("new: foot(0)", x.foot(0), ShoesAtLaw.BAD);
        Due.is("new: worn(1, 5)", x.worn(1, 5), 0);
        Due.is("new: worn(1, 6)", x.worn(1, 6), ShoesAtLaw.BAD);
    }

    private static void typing() {
        ShoesAtLaw x = new ShoesAtLaw();
        Due.is("type(0)", x.type(0), 1);
        Due.is("type(255)", x.type(255), 2);
        Due.is("type(-1)", x.type(-1), ShoesAtLaw.BAD);
        Due.is("type(256)", x.type(256), ShoesAtLaw.BAD);
        Due.is("count(5)", x.count(5), 2);
        for (int i = 3; i <= 200; i++) {
            Due.is("type(32)", x.type(32), i);
        }
        Due.is("the 201st letter", x.type(32), ShoesAtLaw.FULL);
        Due.is("a letter that is none, on a full text", x.type(256), ShoesAtLaw.BAD);
        Due.is("count(5)", x.count(5), 200);
    }

    private static void clearing() {
        ShoesAtLaw x = Due.told("g1 2;");
        Due.is("clear() of nothing", x.clear(), 0);
        Due.type(x, "g3 4;x");
        Due.is("clear()", x.clear(), 6);
        Due.is("clear() again", x.clear(), 0);
        Due.is("count(5)", x.count(5), 0);
        Due.is("suit() of nothing tells of no goods", x.suit(), 0);
        Due.is("count(0)", x.count(0), 0);
    }

    private static void itemsAndBlanks() {
        Due.is("empty", Due.suitOf(""), 0);
        Due.is("blanks", Due.suitOf("     "), 0);
        Due.is("blanks everywhere", Due.suitOf("   g   0   20   ;  c  6 ;h   3;   "), 3);
        Due.is("no blanks", Due.suitOf("g0 20;g20 0;p0 1 0 20;p1 0 20 0;h0;c1;"), 6);
        Due.is("six goods", Due.suitOf("g0 0;g0 0;g0 0;g0 0;g0 0;g0 0;"), 6);
        Due.is("four pairs alike", Due.suitOf("g0 0;g0 0;p0 1 1 1;p0 1 1 1;p1 0 1 1;p0 1 1 1;"), 6);
        Due.is("goods behind pairs", Due.suitOf("g0 0;g0 0;p0 1 1 1;g3 3;p2 0 1 1;"), 5);
        String longest = "g 1 1;" + " ".repeat(194);
        Due.is("200 letters", Due.suitOf(longest), 1);
    }

    private static void faultsOfLetters() {
        Due.is("x", Due.suitOf("x"), -10);
        Due.is("blanks, x", Due.suitOf("   x"), -13);
        Due.is("capital", Due.suitOf("G1 1;"), -10);
        Due.is("a tab is no blank", Due.suitOf("g1\t1;"), -12);
        Due.is("a new line is no blank", Due.suitOf("g1 1;\n"), -15);
        Due.is("letter 0", Due.suitOf("g1 1;\0"), -15);
        Due.is("letter 255", Due.suitOf("g1 1;" + (char) 255), -15);
        Due.is("letter 160", Due.suitOf("g" + (char) 160), -11);
        Due.is("minus", Due.suitOf("g-1 1;"), -11);
        Due.is("lone end", Due.suitOf(";"), -10);
        Due.is("two ends", Due.suitOf("h1;;"), -13);
        Due.is("lone number", Due.suitOf(" 7;"), -11);
        Due.is("'/' is no digit", Due.suitOf("h/;"), -11);
        Due.is("':' is no digit", Due.suitOf("h:;"), -11);
        Due.is("x behind a number", Due.suitOf("g1x 1;"), -12);
    }

    private static void faultsOfNumbers() {
        Due.is("g 21", Due.suitOf("g21 1;"), -11);
        Due.is("g 1 21", Due.suitOf("g1 21;"), -13);
        Due.is("g 00", Due.suitOf("g1 00;"), -13);
        Due.is("g 020", Due.suitOf("g 020 1;"), -12);
        Due.is("digits in one", Due.suitOf("g12 345;"), -14);
        Due.is("two numbers without a blank", Due.suitOf("g53;"), -11);
        Due.is("2 to the 32nd and 1", Due.suitOf("g4294967297 1;"), -11);
        Due.is("2 to the 64th", Due.suitOf("g18446744073709551616 1;"), -11);
        Due.is("many digits", Due.suitOf("g1 " + "9".repeat(190)), -13);
        Due.is("many noughts", Due.suitOf("h" + "0".repeat(199)), -11);
        Due.is("h 3", Due.suitOf("h3;"), 1);
        Due.is("h 4", Due.suitOf("h4;"), -11);
        Due.is("h 03", Due.suitOf("h03;"), -11);
        Due.is("c 0", Due.suitOf("c 0;"), -12);
        Due.is("c 7", Due.suitOf("c  7;"), -13);
        Due.is("c 06", Due.suitOf("c06;"), -11);
        Due.is("more of 21 to LEFT", Due.suitOf("g0 0;g0 0;p0 1 21 0;"), -25);
        Due.is("more of 21 to RIGHT", Due.suitOf("g0 0;g0 0;p0 1 0 21;"), -27);
        Due.is("an ill number where none may be", Due.suitOf("h1 99;"), -13);
        Due.is("a good number where none may be", Due.suitOf("h1 2;"), -13);
    }

    private static void faultsOfItems() {
        String six = "g0 0;g0 0;g0 0;g0 0;g0 0;g0 0;";
        Due.is("seventh g", Due.suitOf(six + "  g0 0;"), -42);
        Due.is("g of a good too much ahead of its fault", Due.suitOf(six + "g99"), -40);
        String two = "g0 0;g0 0;";
        String four = two + "p0 1 0 0;".repeat(4);
        Due.is("fifth p", Due.suitOf(four + "p0 1 0 0;"), -56);
        Due.is("h again", Due.suitOf("h1;c1;h1;"), -16);
        Due.is("c again", Due.suitOf("c1;h1;c1;"), -16);
        Due.is("p without goods", Due.suitOf("p0 1 0 0;"), -11);
        Due.is("p of a good that is told later", Due.suitOf("g0 0;p0 1 0 0;g0 0;"), -18);
        Due.is("G that there is not", Due.suitOf(two + "p2 0 0 0;"), -21);
        Due.is("H that there is not", Due.suitOf(two + "p0 2 0 0;"), -23);
        Due.is("H that is G", Due.suitOf(two + "p1 1 0 0;"), -23);
        Due.is("G 20", Due.suitOf(two + "p20 1 0 0;"), -21);
        Due.is("end for a number", Due.suitOf("g1;"), -12);
        Due.is("g for a number", Due.suitOf("gg"), -11);
        Due.is("three numbers of a good", Due.suitOf("g1 1 1;"), -15);
        Due.is("five numbers of a pair", Due.suitOf(two + "p0 1 1 1 1;"), -29);
        Due.is("g for an end", Due.suitOf("h1g1 1;"), -12);
        Due.is("the first of two faults", Due.suitOf("h9;x"), -11);
    }

    private static void textsThatEndTooEarly() {
        String[] early = {"g", "g1", "g1 1", "g1 1  ", "h", "h1", "c", "c1 ", "g0 0;g0 0;p", "g0 0;g0 0;p0", "g0 0;g0 0;p0 1",
            "g0 0;g0 0;p0 1 2", "g0 0;g0 0;p0 1 2 3", "g20", "  h2", "g1 1;h"};
        for (String text : early) {
            Due.is("suit() of '" + text + "'", Due.suitOf(text), -10 - text.length());
        }
        String full = " ".repeat(199) + "c";
        Due.is("200 letters that end too early", Due.suitOf(full), -210);
    }

    private static void suitRefusedChangesNothing() {
        ShoesAtLaw x = Due.told("g5 6;g7 8;p0 1 2 3;h2;c4;");
        x.gives(1, 1);
        x.steps(0);
        x.saw(0, 1, 1);
        x.keep(1);
        Due.type(x, "g1 1;h0;c1;c");
        Due.is("suit()", x.suit(), -21);
        Due.is("suit() again", x.suit(), -21);
        int[] stays = {2, 1, 2, 4, 1, 12};
        for (int what = 0; what < stays.length; what++) {
            Due.is("refused: count(" + what + ")", x.count(what), stays[what]);
        }
        Due.is("refused: values(1, 3)", x.values(1, 3), 17);
        Due.is("refused: now(1)", x.now(1), 2);
        Due.is("refused: now(3)", x.now(3), 1);
        Due.is("refused: now(4)", x.now(4), 2);
        Due.is("refused: back(1)", x.back(1), 1);
    }

    private static void suitTellsAllAnew() {
        ShoesAtLaw x = Due.told("g5 6;g7 8;p0 1 2 3;h2;c4;");
        x.gives(0, 1);
        x.gives(1, 0);
        x.steps(0);
        x.saw(0, 1, 1);
        x.keep(0);
        x.keep(1);
        x.rate(3, 0);
        Due.type(x, "g1 2;g3 4;");
        Due.is("suit()", x.suit(), 2);
        int[] anew = {2, 0, 1, 6, 0, 0};
        for (int what = 0; what < anew.length; what++) {
            Due.is("anew: count(" + what + ")", x.count(what), anew[what]);
        }
        int[] now = {0, 0, 3, 0, 0};
        for (int what = 0; what < now.length; what++) {
            Due.is("anew: now(" + what + ")", x.now(what), now[what]);
        }
        Due.is("anew: undo()", x.undo(), ShoesAtLaw.STATE);
        Due.is("anew: back(0)", x.back(0), ShoesAtLaw.STATE);
        Due.is("anew: back(1)", x.back(1), ShoesAtLaw.STATE);
        Due.is("anew: values(0, 3)", x.values(0, 3), 4);
        Due.is("anew: values(1, 3)", x.values(1, 3), 6);
        Due.is("anew: trace()", x.trace(), 1011);
        x.gives(0, 0);
        Due.is("suit() of nothing", x.suit(), 0);
        Due.is("nothing: count(0)", x.count(0), 0);
        Due.is("nothing: now(0)", x.now(0), 0);
        Due.is("nothing: now(2)", x.now(2), 0);
    }

    private static void suitsAgainAndAgain() {
        ShoesAtLaw x = Due.told("g1 1;g2 2;g3 3;p0 1 4 4;p1 2 8 8;");
        Due.retell(x, "g1 1;g2 2;p0 1 16 16;");
        Due.is("values(0, 3)", x.values(0, 3), 19);
        Due.retell(x, "g1 1;g2 2;g3 3;");
        Due.is("no pairs: values(0, 7)", x.values(0, 7), 6);
        Due.retell(x, "g1 1;g2 2;g3 3;p0 2 5 5;");
        Due.is("one pair: values(0, 7)", x.values(0, 7), 11);
        Due.is("one pair: count(1)", x.count(1), 1);
    }

    private static void counts() {
        ShoesAtLaw x = Due.told("g5 6;g7 8;g0 0;p0 1 2 3;p2 1 0 0;h3;c2;");
        x.saw(0, 0, 1);
        x.saw(1, 1, 60);
        x.saw(1, 1, 60);
        Due.type(x, "    ");
        int[] want = {3, 2, 3, 2, 3, 4};
        for (int what = 0; what < want.length; what++) {
            Due.is("count(" + what + ")", x.count(what), want[what]);
        }
        Due.is("count(-1)", x.count(-1), ShoesAtLaw.BAD);
        Due.is("count(6)", x.count(6), ShoesAtLaw.BAD);
    }
}
