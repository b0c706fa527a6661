/** Promises 19 to 26: steps, soles, what was seen, the soonest way. */
public final class StepsTest {
    private static final int BAD = ShoesAtLaw.BAD, NONE = ShoesAtLaw.NONE;

    public static void main(String[] args) {
        feet();
        wear();
        firstThatCannotBe();
        longestAndLed();
        judgeOfOther();
        seeing();
        forgetting();
        wornAsTold();
        wrongStep();
        wrongStepByParts();
        soonest();
        soonestBad();
        Due.end();
    }

    private static void feet() {
        ShoesAtLaw x = new ShoesAtLaw();
        String feet = "0110100";
        Due.walk(x, feet);
        for (int i = 0; i < feet.length(); i++) {
            Due.is("foot(" + i + ")", x.foot(i), feet.charAt(i) - '0');
        }
        Due.is("foot(-1)", x.foot(-1), BAD);
        Due.is("foot(7)", x.foot(7), BAD);
        x.undo();
        Due.is("foot(6), undone", x.foot(6), BAD);
    }

    private static void wear() {
        ShoesAtLaw x = Due.told("c4;");
        Due.walk(x, "000001010");
        int[] left = {2, 2, 2, 1};
        int[] right = {1, 1, 0, 0};
        for (int cell = 0; cell < 4; cell++) {
            Due.is("worn(0, " + cell + ")", x.worn(0, cell), left[cell]);
            Due.is("worn(1, " + cell + ")", x.worn(1, cell), right[cell]);
        }
        Due.is("worn(0, 4)", x.worn(0, 4), BAD);
        Due.is("worn(0, -1)", x.worn(0, -1), BAD);
        Due.is("worn(2, 0)", x.worn(2, 0), BAD);
        Due.is("worn(-1, 0)", x.worn(-1, 0), BAD);
        x.undo();
        Due.is("worn(0, 2), undone", x.worn(0, 2), 1);
    }

    private static void dueCannot(String text, String feet, int first) {
        ShoesAtLaw x = Due.told(text);
        Due.walk(x, feet);
        Due.is("'" + text + "' " + feet + " judge(0)", x.judge(0), first);
    }

    private static void firstThatCannotBe() {
        dueCannot("", "", NONE);
        dueCannot("", "00", NONE);
        dueCannot("", "000", 2);
        dueCannot("", "0010011000", 9);
        dueCannot("", "0011001100", NONE);
        dueCannot("h0;", "0", NONE);
        dueCannot("h0;", "00", 1);
        dueCannot("h0;", "010110", 4);
        dueCannot("h2;", "000111000", NONE);
        dueCannot("h2;", "0001111", 6);
        dueCannot("h3;", "11110000", NONE);
        dueCannot("h3;", "111110000", 4);
        dueCannot("h3;", "1111011111000", 9);
    }

    private static void longestAndLed() {
        ShoesAtLaw x = new ShoesAtLaw();
        Due.is("no steps: judge(1)", x.judge(1), 0);
        Due.is("no steps: judge(2)", x.judge(2), 0);
        x.steps(1);
        Due.is("1: judge(1)", x.judge(1), 1);
        Due.is("1: judge(2)", x.judge(2), 0);
        Due.walk(x, "1101");
        Due.is("11101: judge(1)", x.judge(1), 3);
        Due.is("11101: judge(2)", x.judge(2), 2);
        Due.walk(x, "0000");
        Due.is("111010000: judge(1)", x.judge(1), 4);
        Due.is("111010000: judge(2)", x.judge(2), 3);
    }

    private static void judgeOfOther() {
        ShoesAtLaw x = new ShoesAtLaw();
        Due.is("judge(-1)", x.judge(-1), BAD);
        Due.is("judge(3)", x.judge(3), BAD);
    }

    private static void seeing() {
        ShoesAtLaw x = Due.told("c3;");
        Due.is("saw(2, 0, 0)", x.saw(2, 0, 0), BAD);
        Due.is("saw(-1, 0, 0)", x.saw(-1, 0, 0), BAD);
        Due.is("saw(0, 3, 0)", x.saw(0, 3, 0), BAD);
        Due.is("saw(0, -1, 0)", x.saw(0, -1, 0), BAD);
        Due.is("saw(0, 0, -1)", x.saw(0, 0, -1), BAD);
        Due.is("saw(0, 0, 61)", x.saw(0, 0, 61), BAD);
        Due.is("count(4)", x.count(4), 0);
        for (int i = 1; i <= 6; i++) {
            Due.is("saw(0, 2, 60)", x.saw(0, 2, 60), i);
        }
        Due.is("the seventh", x.saw(0, 0, 0), ShoesAtLaw.FULL);
        Due.is("a bad one, when full", x.saw(0, 3, 0), BAD);
        Due.is("count(4)", x.count(4), 6);
    }

    private static void forgetting() {
        ShoesAtLaw x = Due.told("c3;");
        Due.is("forget() nothing", x.forget(), 0);
        x.saw(0, 0, 7);
        x.saw(1, 2, 7);
        Due.is("asTold()", x.asTold(), 0);
        Due.is("forget()", x.forget(), 2);
        Due.is("forget() again", x.forget(), 0);
        Due.is("count(4)", x.count(4), 0);
        Due.is("asTold()", x.asTold(), 1);
        Due.is("saw(0, 0, 0)", x.saw(0, 0, 0), 1);
        Due.is("asTold()", x.asTold(), 1);
    }

    private static void wornAsTold() {
        ShoesAtLaw x = Due.told("c2;");
        Due.is("nothing seen", x.asTold(), 1);
        Due.walk(x, "00011");
        x.saw(0, 0, 2);
        x.saw(0, 1, 1);
        x.saw(1, 1, 1);
        Due.is("as seen", x.asTold(), 1);
        x.steps(1);
        Due.is("a cell that none looked at", x.asTold(), 1);
        x.steps(1);
        Due.is("a cell more worn than seen", x.asTold(), 0);
        x.undo();
        Due.is("undone", x.asTold(), 1);
        x.saw(0, 0, 3);
        Due.is("two that cannot both be", x.asTold(), 0);
        Due.is("two that cannot both be: wrong(0)", x.wrong(0), 0);
    }

    private static void wrongStep() {
        ShoesAtLaw x = Due.told("c3;");
        Due.is("no steps", x.wrong(0), 0);
        Due.walk(x, "0010111");
        Due.is("nothing seen: each", x.wrong(0), 127);
        x.saw(0, 0, 1);
        x.saw(1, 0, 2);
        Due.is("asTold()", x.asTold(), 1);
        Due.is("it may be so already, and by LEFT's: wrong(0)", x.wrong(0), 1 + 2 + 8);
        x.forget();
        x.saw(0, 0, 2);
        Due.is("one of RIGHT's", x.wrong(0), 4 + 16 + 32 + 64);
        x.saw(1, 0, 2);
        Due.is("RIGHT's first cell would be less worn", x.wrong(0), 0);
        x.forget();
        x.saw(1, 1, 2);
        Due.is("one of LEFT's", x.wrong(0), 1 + 2 + 8);
        Due.is("wrong(1)", x.wrong(1), 0);
        Due.is("wrong(2)", x.wrong(2), BAD);
        Due.is("wrong(-1)", x.wrong(-1), BAD);
        Due.is("nothing was told anew: now(3)", x.now(3), 7);
        Due.is("nothing was told anew: foot(0)", x.foot(0), 0);
    }

    private static void wrongStepByParts() {
        ShoesAtLaw x = Due.told("c1;");
        Due.walk(x, "01".repeat(30));
        Due.is("nothing seen: wrong(0)", x.wrong(0), (1 << 30) - 1);
        Due.is("nothing seen: wrong(1)", x.wrong(1), (1 << 30) - 1);
        x.saw(0, 0, 31);
        Due.is("RIGHT's: wrong(0)", x.wrong(0), 0x2AAAAAAA);
        Due.is("RIGHT's: wrong(1)", x.wrong(1), 0x2AAAAAAA);
        x.forget();
        x.saw(1, 0, 31);
        x.saw(0, 0, 29);
        Due.is("LEFT's: wrong(0)", x.wrong(0), 0x15555555);
        Due.is("LEFT's: wrong(1)", x.wrong(1), 0x15555555);
        x.saw(0, 0, 30);
        Due.is("none: wrong(1)", x.wrong(1), 0);
        ShoesAtLaw y = new ShoesAtLaw();
        Due.walk(y, "0".repeat(31));
        Due.is("31 steps: wrong(0)", y.wrong(0), (1 << 30) - 1);
        Due.is("31 steps: wrong(1)", y.wrong(1), 1);
        y.undo();
        Due.is("30 steps: wrong(1)", y.wrong(1), 0);
    }

    private static void dueSoonest(String text, int n, int a, int b, int fewest) {
        ShoesAtLaw x = Due.told(text);
        Due.is("'" + text + "' soonest(" + n + ", " + a + ", " + b + ")", x.soonest(n, a, b), fewest);
    }

    private static void soonest() {
        dueSoonest("", 10, 3, 2, 4);
        dueSoonest("", 9, 3, 2, 4);
        dueSoonest("", 1, 3, 2, NONE);
        dueSoonest("", 1, 1, 9, 1);
        dueSoonest("", 2, 1, 9, 2);
        dueSoonest("", 3, 1, 9, NONE);
        dueSoonest("h2;", 3, 1, 9, 3);
        dueSoonest("h2;", 4, 1, 9, NONE);
        dueSoonest("h3;", 4, 9, 1, 4);
        dueSoonest("h3;", 5, 9, 1, NONE);
        dueSoonest("h0;", 4, 2, 2, 2);
        dueSoonest("h0;", 99, 1, 9, 19);
        dueSoonest("h0;", 99, 9, 1, 19);
        dueSoonest("", 60, 1, 1, 60);
        dueSoonest("", 61, 1, 1, NONE);
        dueSoonest("h3;", 99, 1, 2, 55);
        dueSoonest("h0;", 90, 1, 2, 60);
        dueSoonest("h0;", 93, 1, 2, NONE);
        ShoesAtLaw x = new ShoesAtLaw();
        Due.walk(x, "000");
        Due.is("what was walked ahead does not count", x.soonest(2, 1, 9), 2);
    }

    private static void soonestBad() {
        int[][] ill = {{0, 1, 1}, {-1, 1, 1}, {100, 1, 1}, {1, 0, 1}, {1, 10, 1}, {1, 1, 0}, {1, 1, 10}, {1, -1, 1}, {1, 1, -1}};
        ShoesAtLaw x = new ShoesAtLaw();
        for (int[] i : ill) {
            Due.is("soonest(" + i[0] + ", " + i[1] + ", " + i[2] + ")", x.soonest(i[0], i[1], i[2]), BAD);
        }
        Due.is("soonest(99, 9, 9)", x.soonest(99, 9, 9), 11);
    }
}
