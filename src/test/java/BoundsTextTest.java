/** Promises 1 to 4, and what "Terms" says of the text: every sentence that names a bound, at the bound and beyond it. */
public final class BoundsTextTest {
    private static final int BAD = ShoesAtLaw.BAD, FULL = ShoesAtLaw.FULL;
    private static final String TWO = "g0 0;g0 0;";
    /** Numbers above 20, those among them that would wrap around into what may be. */
    private static final String[] ABOVE = {"21", "29", "30", "99", "100", "120", "256", "257", "65537", "2147483647", "2147483648",
        "4294967295", "4294967296", "4294967297", "4294967301", "18446744073709551617", "1".repeat(100)};
    private static final String[] NOUGHT_AHEAD = {"00", "01", "02", "06", "09", "010", "020", "021", "000", "0".repeat(100), "0".repeat(99) + "1"};
    /** What goes ahead of each NUMBER that a text may have, with what may go behind it. */
    private static final String[][] PLACES = {{"g", " 1;"}, {"g1 ", ";"}, {TWO + "p", " 1 1 1;"}, {TWO + "p0 ", " 1 1;"},
        {TWO + "p0 1 ", " 1;"}, {TWO + "p0 1 1 ", ";"}, {"h", ";"}, {"c", ";"}};

    public static void main(String[] args) {
        newObject();
        newObjectHasNoGoods();
        letters();
        lettersAtMost();
        textFullToItsLastLetter();
        clearing();
        goodsAtMost();
        worth();
        pairsAtMost();
        more();
        hops();
        cells();
        hopsAndCellsAtFirst();
        blanksAnyNumber();
        blanksNeeded();
        everyLetterWhereAnItemBegins();
        everyLetterWhereANumberIs();
        everyLetterWhereAnItemEnds();
        everyLetterBehindAll();
        noItems();
        itemsAtMost();
        itemsAreEnded();
        pairsOfGoodsToldAhead();
        pairsOfGoodsUnlike();
        pairsToldAgain();
        hopsOnce();
        cellsOnce();
        onceInEachText();
        faultIsTheTokensFirstLetter();
        numbersAbove();
        numbersWithANoughtAhead();
        endsTooEarly();
        firstFaultOnly();
        suitEmptiesTheText();
        faultLeavesTheText();
        Due.end();
    }

    private static void dueSuit(String text, int answer) {
        Due.is("suit() of '" + text + "'", Due.suitOf(text), answer);
    }

    private static void dueFault(String text, int place) {
        dueSuit(text, -10 - place);
    }

    // ---- promises 1 to 3

    private static void newObject() {
        Due.under("As told; no GOODS.");
        int[] counts = {0, 0, 1, 6, 0, 0};
        int[] now = {0, 0, 0, 0, 0};
        for (int what = 0; what < counts.length; what++) {
            Due.is("new: count(" + what + ")", new ShoesAtLaw().count(what), counts[what]);
        }
        for (int what = 0; what < now.length; what++) {
            Due.is("new: now(" + what + ")", new ShoesAtLaw().now(what), now[what]);
        }
        Due.is("new: trace()", new ShoesAtLaw().trace(), 0);
        Due.is("new: undo()", new ShoesAtLaw().undo(), ShoesAtLaw.STATE);
        Due.is("new: clear()", new ShoesAtLaw().clear(), 0);
        Due.is("new: forget()", new ShoesAtLaw().forget(), 0);
        Due.is("new: suit()", new ShoesAtLaw().suit(), 0);
        Due.is("new: asTold()", new ShoesAtLaw().asTold(), 1);
        for (int image = 0; image < 2; image++) {
            Due.is("new: back(" + image + ")", new ShoesAtLaw().back(image), ShoesAtLaw.STATE);
            Due.is("new: keep(" + image + ")", new ShoesAtLaw().keep(image), 0);
        }
    }

    private static void newObjectHasNoGoods() {
        Due.under("As told; no GOODS.");
        ShoesAtLaw x = new ShoesAtLaw();
        for (int what = 0; what < 3; what++) {
            Due.is("new: good(0, " + what + ")", x.good(0, what), BAD);
            Due.is("new: gives(0, " + what + ")", x.gives(0, what), BAD);
        }
        for (int side = 0; side < 2; side++) {
            Due.is("new: values(side, 0)", x.values(side, 0), 0);
            Due.is("new: values(side, 1)", x.values(side, 1), BAD);
            Due.is("new: envy(side)", x.envy(side), 0);
            Due.is("new: cut(side, 0)", x.cut(side, 0), 0);
            Due.is("new: cut(side, 1)", x.cut(side, 1), 0);
            Due.is("new: byTurns(side, 0)", x.byTurns(side, 0), 0);
            Due.is("new: byTurns(side, 1)", x.byTurns(side, 1), 0);
            Due.is("new: byTurns(side, 2)", x.byTurns(side, 2), ShoesAtLaw.NONE);
            Due.is("new: lies(side, 0)", x.lies(side, 0), 0);
            Due.is("new: lies(side, 1)", x.lies(side, 1), ShoesAtLaw.NONE);
            Due.is("new: adds(side)", x.adds(side), 1);
            for (int kind = 0; kind < 6; kind++) {
                Due.is("new: rate(" + kind + ", side)", x.rate(kind, side), kind == 4 ? side : 0);
            }
        }
        for (int c = 0; c < 10; c++) {
            Due.is("new: sell(" + c + ")", x.sell(c), 0);
        }
        for (int p = 0; p <= 10; p++) {
            Due.is("new: odds(" + p + ", 0)", x.odds(p, 0), 1);
            Due.is("new: odds(" + p + ", 1)", x.odds(p, 1), 1);
        }
    }

    private static void letters() {
        Due.under("A letter (0 .. 255) comes to THE TEXT: how many it has. BAD");
        Bounds.are("type", letter -> new ShoesAtLaw().type(letter), 0, 1, 255, 1);
        ShoesAtLaw x = new ShoesAtLaw();
        for (int letter = 0; letter < 200; letter++) {
            Due.is("type(" + letter + ")", x.type(letter), letter + 1);
        }
    }

    private static void lettersAtMost() {
        Due.under("They are a text (200 letters at most)");
        ShoesAtLaw x = new ShoesAtLaw();
        for (int i = 1; i <= 200; i++) {
            Due.is("letter " + i, x.type(i % 256), i);
        }
        for (int letter = 0; letter <= 255; letter += 5) {
            Due.is("the 201st, " + letter, x.type(letter), FULL);
        }
        Due.is("count(5)", x.count(5), 200);
        Due.is("clear()", x.clear(), 200);
        Due.is("there is room again", x.type(0), 1);
    }

    private static void textFullToItsLastLetter() {
        Due.under("They are a text (200 letters at most)");
        dueSuit(" ".repeat(197) + "h2;", 1);
        dueSuit("h2;" + " ".repeat(197), 1);
        // The 201st letter does not come to the text, and so it ends too early.
        dueFault(" ".repeat(198) + "h2;", 200);
        dueFault(" ".repeat(199) + "x", 199);
        dueSuit(" ".repeat(200) + "x", 0);
        ShoesAtLaw x = Due.told(" ".repeat(195) + "g1 2;");
        Due.is("good(0, 1)", x.good(0, 1), 2);
    }

    private static void clearing() {
        Due.under("THE TEXT is empty: how many letters it had.");
        for (int many : new int[] {0, 1, 2, 199, 200}) {
            ShoesAtLaw x = new ShoesAtLaw();
            Due.type(x, "x".repeat(many));
            Due.is("clear() of " + many, x.clear(), many);
            Due.is("clear() again", x.clear(), 0);
            Due.is("count(5)", x.count(5), 0);
            Due.is("suit() of nothing", x.suit(), 0);
        }
    }

    // ---- how many, and how much

    private static void goodsAtMost() {
        Due.under("GOODS 0 .. (6 at most); FAULT: a seventh g");
        for (int many = 0; many <= 6; many++) {
            ShoesAtLaw x = Due.told("g3 4;".repeat(many));
            Due.is("count(0)", x.count(0), many);
            Due.is("the last of " + many, x.good(many - 1, 1), many == 0 ? BAD : 4);
            Due.is("one more than " + many, x.good(many, 1), BAD);
        }
        dueFault("g3 4;".repeat(7), 30);
        dueFault("g3 4;".repeat(8), 30);
        dueFault("g3 4;".repeat(6) + "   g3 4;", 33);
        dueFault("g3 4;".repeat(6) + "g", 30);
        dueFault("g3 4;".repeat(6) + "h1;p0 1 2 3;g", 42);
        dueSuit("g3 4;".repeat(5) + "h1;p0 1 2 3;g3 4;", 8);
    }

    private static void worth() {
        Due.under("WORTH to LEFT, to RIGHT (0 .. 20 each)");
        for (int n = 0; n <= 20; n++) {
            ShoesAtLaw left = Due.told("g" + n + " 1;");
            Due.is("good(0, 0)", left.good(0, 0), n);
            Due.is("good(0, 1)", left.good(0, 1), 1);
            ShoesAtLaw right = Due.told("g1 " + n + ";");
            Due.is("good(0, 0)", right.good(0, 0), 1);
            Due.is("good(0, 1)", right.good(0, 1), n);
        }
        dueFault("g21 1;", 1);
        dueFault("g1 21;", 3);
        dueFault("g-1 1;", 1);
        dueFault("g1 -1;", 3);
    }

    private static void pairsAtMost() {
        Due.under("PAIRS (4 at most) of two GOODS; FAULT: a fifth p");
        for (int many = 0; many <= 4; many++) {
            ShoesAtLaw x = Due.told(TWO + "p0 1 3 4;".repeat(many));
            Due.is("count(1)", x.count(1), many);
            Due.is("values(1, 3) by " + many, x.values(1, 3), 4 * many);
        }
        dueFault(TWO + "p0 1 3 4;".repeat(5), 46);
        dueFault(TWO + "p0 1 3 4;".repeat(4) + "  p", 48);
        dueFault(TWO + "p0 1 3 4;".repeat(4) + "g1 1;h1;c1;p0 1 3 4;", 57);
        dueSuit(TWO + "p0 1 3 4;".repeat(3) + "g1 1;h1;c1;p0 1 3 4;", 9);
    }

    private static void more() {
        Due.under("who has both has so much more (MORE to LEFT, to RIGHT, 0 .. 20 each)");
        for (int n = 0; n <= 20; n++) {
            ShoesAtLaw left = Due.told(TWO + "p0 1 " + n + " 1;");
            Due.is("values(0, 3)", left.values(0, 3), n);
            Due.is("values(1, 3)", left.values(1, 3), 1);
            Due.is("half of it: values(0, 1)", left.values(0, 1), 0);
            Due.is("half of it: values(0, 2)", left.values(0, 2), 0);
            ShoesAtLaw right = Due.told(TWO + "p1 0 1 " + n + ";");
            Due.is("values(0, 3)", right.values(0, 3), 1);
            Due.is("values(1, 3)", right.values(1, 3), n);
        }
        dueFault(TWO + "p0 1 21 1;", 15);
        dueFault(TWO + "p0 1 1 21;", 17);
    }

    private static void hops() {
        Due.under("HOPS (0 .. 3; 1 at first)");
        for (int n = 0; n <= 3; n++) {
            Due.is("count(2) of h" + n, Due.told("h" + n + ";").count(2), n);
        }
        for (int n = 4; n <= 22; n++) {
            dueFault("h" + n + ";", 1);
        }
        dueFault("h-1;", 1);
    }

    private static void cells() {
        Due.under("CELLS of a sole (1 .. 6; 6 at first)");
        dueFault("c0;", 1);
        for (int n = 1; n <= 6; n++) {
            Due.is("count(3) of c" + n, Due.told("c" + n + ";").count(3), n);
        }
        for (int n = 7; n <= 22; n++) {
            dueFault("c" + n + ";", 1);
        }
    }

    private static void hopsAndCellsAtFirst() {
        Due.under("Read anew: as told (what is not told as at first)");
        ShoesAtLaw x = Due.told("h3;c1;");
        Due.retell(x, "g1 1;");
        Due.is("h is not told: count(2)", x.count(2), 1);
        Due.is("c is not told: count(3)", x.count(3), 6);
        Due.retell(x, "h0;");
        Due.is("h is told: count(2)", x.count(2), 0);
        Due.is("c is not told: count(3)", x.count(3), 6);
        Due.is("g is not told: count(0)", x.count(0), 0);
        Due.retell(x, TWO + "p0 1 1 1;c2;");
        Due.is("h is not told: count(2)", x.count(2), 1);
        Due.is("c is told: count(3)", x.count(3), 2);
        Due.retell(x, TWO);
        Due.is("p is not told: count(1)", x.count(1), 0);
    }

    // ---- blanks and other letters

    private static void blanksAnyNumber() {
        Due.under("blanks (32), any number, ahead of, between, behind TOKENS");
        String[] tokens = {"g", "1", "2", ";", "g", "3", "4", ";", "p", "0", "1", "5", "6", ";", "h", "2", ";", "c", "3", ";"};
        for (int gap = 0; gap <= tokens.length; gap++) {
            for (int blanks : new int[] {0, 1, 2, 3, 150}) {
                StringBuilder text = new StringBuilder();
                for (int i = 0; i <= tokens.length; i++) {
                    boolean numbers = i > 0 && i < tokens.length && isNumber(tokens[i]) && isNumber(tokens[i - 1]);
                    text.append(" ".repeat(Math.max(i == gap ? blanks : 0, numbers ? 1 : 0)));
                    text.append(i < tokens.length ? tokens[i] : "");
                }
                dueSuit(text.toString(), 5);
                ShoesAtLaw x = Due.told(text.toString());
                Due.is("'" + text + "' values(0, 3)", x.values(0, 3), 9);
                Due.is("'" + text + "' values(1, 3)", x.values(1, 3), 12);
            }
        }
        dueSuit(String.join("  ", tokens), 5);
    }

    private static boolean isNumber(String token) {
        return Character.isDigit(token.charAt(0));
    }

    private static void blanksNeeded() {
        Due.under("needed only between two NUMBERS");
        dueFault("g12;", 3);
        dueFault("g201;", 1);
        dueFault("g1 1 2;", 5);
        dueFault(TWO + "p01 2 3;", 11);
        dueFault(TWO + "p10 2 3;", 11);
        dueFault(TWO + "p0 12 3;", 13);
        dueFault(TWO + "p0 1 23;", 15);
        dueFault(TWO + "p0 1 13;", 17);
        dueSuit(TWO + "p0 1 2 3;", 3);
    }

    private static void everyLetterWhereAnItemBegins() {
        Due.under("TOKENS are the letters g, p, h, c, NUMBERS and ; . FAULT: .. of any other letter");
        for (int letter = 0; letter <= 255; letter++) {
            boolean opens = letter == 'g' || letter == 'p' || letter == 'h' || letter == 'c';
            dueSuit((char) letter + "h2;", letter == ' ' ? 1 : opens ? -11 : -10);
        }
    }

    private static void everyLetterWhereANumberIs() {
        Due.under("TOKENS are the letters g, p, h, c, NUMBERS and ; . FAULT: .. of any other letter");
        for (int letter = 0; letter <= 255; letter++) {
            dueSuit("h" + (char) letter + ";", letter >= '0' && letter <= '3' ? 1 : letter == ' ' ? -12 : -11);
            boolean digit = letter >= '0' && letter <= '9';
            dueSuit("g 1 " + (char) letter + ";", digit ? 1 : letter == ' ' ? -15 : -14);
        }
    }

    private static void everyLetterWhereAnItemEnds() {
        Due.under("ITEMS (none, too), each ended by ;");
        for (int letter = 0; letter <= 255; letter++) {
            boolean digit = letter >= '0' && letter <= '9';
            dueSuit("h2" + (char) letter, letter == ';' ? 1 : digit ? -11 : letter == ' ' ? -13 : -12);
        }
    }

    private static void everyLetterBehindAll() {
        Due.under("TOKENS are the letters g, p, h, c, NUMBERS and ; . FAULT: .. of any other letter");
        for (int letter = 0; letter <= 255; letter++) {
            boolean opens = letter == 'g' || letter == 'p' || letter == 'c';
            dueSuit("h2;" + (char) letter, letter == ' ' ? 1 : opens ? -14 : -13);
        }
    }

    // ---- items

    private static void noItems() {
        Due.under("ITEMS (none, too)");
        dueSuit("", 0);
        dueSuit(" ", 0);
        dueSuit(" ".repeat(200), 0);
    }

    private static void itemsAtMost() {
        Due.under("THE TEXT tells all anew, and is empty then: how many ITEMS.");
        dueSuit("c6;", 1);
        dueSuit("g1 2;".repeat(6) + "p4 5 1 2;".repeat(4) + "h0;c1;", 12);
        dueSuit("h0;c1;" + "g1 2;".repeat(6) + "p5 4 1 2;".repeat(4), 12);
    }

    private static void itemsAreEnded() {
        Due.under("ITEMS (none, too), each ended by ;");
        dueFault("g1 2g1 2;", 4);
        dueFault("g1 2 h1;", 5);
        dueFault("h1c1;", 2);
        dueFault("c1p", 2);
        dueFault(TWO + "p0 1 2 3h1;", 18);
        dueFault(";", 0);
        dueFault("h1;;", 3);
        dueFault("h;", 1);
        dueFault("g;", 1);
        dueFault("g1;", 2);
        dueFault(TWO + "p;", 11);
        dueFault(TWO + "p0;", 12);
        dueFault(TWO + "p0 1;", 14);
        dueFault(TWO + "p0 1 2;", 16);
        dueFault(TWO + "p0 1 2 3 4;", 19);
        dueFault("h1 1;", 3);
        dueFault("c1 1;", 3);
    }

    private static void pairsOfGoodsToldAhead() {
        Due.under("a PAIR of GOODS told ahead; FAULT: a GOOD that there is not");
        dueFault("p0 1 2 3;", 1);
        dueFault("g0 0;p0 1 2 3;", 8);
        dueFault("g0 0;p1 0 2 3;", 6);
        dueFault("g0 0;p0 1 2 3;g0 0;", 8);
        for (int goods = 2; goods <= 6; goods++) {
            String ahead = "g0 0;".repeat(goods);
            int last = goods - 1;
            dueSuit(ahead + "p" + last + " 0 1 1;", goods + 1);
            dueSuit(ahead + "p0 " + last + " 1 1;", goods + 1);
            for (int none = goods; none <= 20; none++) {
                dueFault(ahead + "p" + none + " 0 1 1;", ahead.length() + 1);
                dueFault(ahead + "p0 " + none + " 1 1;", ahead.length() + 3);
            }
        }
    }

    private static void pairsOfGoodsUnlike() {
        Due.under("a PAIR of GOODS told ahead, unlike; FAULT: an H that is G");
        String six = "g0 0;".repeat(6);
        for (int g = 0; g < 6; g++) {
            for (int h = 0; h < 6; h++) {
                dueSuit(six + "p" + g + " " + h + " 1 1;", g == h ? -43 : 7);
            }
        }
        dueFault("g0 0;p0 0 1 1;", 8);
    }

    private static void pairsToldAgain() {
        Due.under("the like may be told again");
        ShoesAtLaw x = Due.told(TWO + "p0 1 20 1;p0 1 20 1;p1 0 20 2;p1 0 20 2;");
        Due.is("count(1)", x.count(1), 4);
        Due.is("each is so much more to LEFT", x.values(0, 3), 80);
        Due.is("each is so much more to RIGHT", x.values(1, 3), 6);
    }

    private static void hopsOnce() {
        Due.under("h N (HOPS) .. once each at most; FAULT: h again");
        for (int n = 0; n <= 3; n++) {
            dueFault("h1;h" + n + ";", 3);
        }
        dueFault("h1;h", 3);
        dueFault("h1;c1;g1 1;  h1;", 13);
        dueFault("h1;hh", 3);
    }

    private static void cellsOnce() {
        Due.under("c N (CELLS; once each at most); FAULT: c again");
        for (int n = 1; n <= 6; n++) {
            dueFault("c6;c" + n + ";", 3);
        }
        dueFault("c1;c", 3);
        dueFault("c1;h1;g1 1;  c1;", 13);
        dueSuit("c1;h1;", 2);
        dueSuit("h1;c1;", 2);
    }

    private static void onceInEachText() {
        Due.under("THE TEXT tells all anew");
        ShoesAtLaw x = Due.told("h3;c3;" + "g1 1;".repeat(6) + "p0 1 1 1;".repeat(4));
        Due.type(x, "h2;c2;" + "g1 1;".repeat(6) + "p0 1 1 1;".repeat(4));
        Due.is("as many again", x.suit(), 12);
        Due.type(x, "h1;h2;");
        Due.is("h again", x.suit(), -13);
        x.clear();
        Due.type(x, "h1;c1;");
        Due.is("behind a fault h is not told yet", x.suit(), 2);
        Due.is("no goods are left: count(0)", x.count(0), 0);
        Due.is("no pairs are left: count(1)", x.count(1), 0);
    }

    // ---- faults

    private static void faultIsTheTokensFirstLetter() {
        Due.under("FAULT: the place of the first letter of the first TOKEN that can't stand there");
        dueFault("g   123 1;", 4);
        dueFault("g1 1;    21", 9);
        dueFault("h          20;", 11);
        dueFault("x", 0);
        dueFault(" ".repeat(199) + ";", 199);
        dueFault(" ".repeat(198) + "77", 198);
    }

    private static void numbersAbove() {
        Due.under("a NUMBER above 20 or with a 0 ahead of others, that TOKEN's");
        for (String[] place : PLACES) {
            for (String above : ABOVE) {
                dueFault(place[0] + above + place[1], place[0].length());
                dueFault(place[0] + "   " + above + place[1], place[0].length() + 3);
            }
        }
        for (String above : ABOVE) {
            dueFault(above, 0);
            dueFault("h1 " + above, 3);
        }
    }

    private static void numbersWithANoughtAhead() {
        Due.under("a NUMBER above 20 or with a 0 ahead of others, that TOKEN's");
        for (String[] place : PLACES) {
            for (String nought : NOUGHT_AHEAD) {
                dueFault(place[0] + nought + place[1], place[0].length());
            }
        }
        dueSuit("g0 0;", 1);
        dueSuit("g10 20;", 1);
        dueSuit("h0;", 1);
    }

    private static void endsTooEarly() {
        Due.under("the text's length, if it ends too early");
        String text = "g10 2;g3 14;p0 1 15 6;h2;c3;";
        int items = 0;
        for (int length = 0; length <= text.length(); length++) {
            String early = text.substring(0, length);
            boolean whole = early.isEmpty() || early.endsWith(";");
            items += early.endsWith(";") ? 1 : 0;
            dueSuit(early, whole ? items : -10 - length);
            dueSuit(early + "     ", whole ? items : -15 - length);
            String full = early + " ".repeat(200 - length);
            dueSuit(full, whole ? items : -210);
        }
        dueFault("p", 1);
        dueFault("p  ", 3);
        dueFault("g0 0;p0", 7);
    }

    private static void firstFaultOnly() {
        Due.under("FAULT: the place of the first letter of the first TOKEN that can't stand there");
        dueFault("h4;c9;x", 1);
        dueFault("c3;h4;x", 4);
        dueFault("c3;h3;x 99 c", 6);
        dueFault("g1 1;p0 0 99", 8);
        dueFault("g1 1;p1 1 1", 6);
        dueFault("g1 99", 3);
        dueFault("g1 2 x", 5);
    }

    // ---- promise 4

    private static void suitEmptiesTheText() {
        Due.under("THE TEXT tells all anew, and is empty then");
        ShoesAtLaw x = Due.told(" ".repeat(195) + "g1 2;");
        Due.is("count(5)", x.count(5), 0);
        Due.is("clear()", x.clear(), 0);
        Due.is("type(32)", x.type(32), 1);
        Due.is("it is not told again: suit()", x.suit(), 0);
        Due.is("count(0)", x.count(0), 0);
    }

    private static void faultLeavesTheText() {
        Due.under("-10 less FAULT: nothing changes (THE TEXT stays, too).");
        ShoesAtLaw x = Due.told("g5 6;h3;c2;");
        Due.type(x, "g1 2;g3 4");
        Due.is("suit()", x.suit(), -19);
        Due.is("count(5)", x.count(5), 9);
        Due.is("count(0)", x.count(0), 1);
        Due.is("count(2)", x.count(2), 3);
        Due.is("count(3)", x.count(3), 2);
        Due.is("good(0, 0)", x.good(0, 0), 5);
        Due.is("suit() again", x.suit(), -19);
        Due.is("the text goes on", x.type(';'), 10);
        Due.is("suit() of all of it", x.suit(), 2);
        Due.is("good(1, 0)", x.good(1, 0), 3);
        ShoesAtLaw full = new ShoesAtLaw();
        Due.type(full, " ".repeat(199) + "c");
        Due.is("suit() of a full text", full.suit(), -210);
        Due.is("it is still full", full.type(';'), FULL);
        Due.is("clear()", full.clear(), 200);
    }
}
