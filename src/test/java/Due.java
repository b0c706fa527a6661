/** Counts the answers of one test that are not as due, and makes objects from texts. */
final class Due {
    private static int asked = 0;
    private static int wrong = 0;
    private static String sentence = "";

    private Due() {
    }

    /** The sentence of the document that the answers asked for next are held against. */
    static void under(String words) {
        sentence = words;
    }

    static void is(String call, long got, long want) {
        asked++;
        if (got != want) {
            wrong++;
            System.out.println(call + " answered " + got + ", due is " + want + (sentence.isEmpty() ? "" : ": " + sentence));
        }
    }

    /** Types a text, letter by letter. */
    static void type(ShoesAtLaw x, String text) {
        for (int i = 0; i < text.length(); i++) {
            x.type(text.charAt(i));
        }
    }

    /** A new object that was told a text which has no fault. */
    static ShoesAtLaw told(String text) {
        ShoesAtLaw x = new ShoesAtLaw();
        retell(x, text);
        return x;
    }

    static void retell(ShoesAtLaw x, String text) {
        type(x, text);
        int items = x.suit();
        if (items < 0) {
            is("suit() of '" + text + "'", items, 0);
        }
    }

    /** What suit() answers to a text on a new object. */
    static int suitOf(String text) {
        ShoesAtLaw x = new ShoesAtLaw();
        type(x, text);
        return x.suit();
    }

    /** Walks feet told as a row of 0 and 1. */
    static void walk(ShoesAtLaw x, String feet) {
        for (int i = 0; i < feet.length(); i++) {
            x.steps(feet.charAt(i) - '0');
        }
    }

    static void end() {
        System.out.println(asked + " answers, " + wrong + " not as due");
        if (wrong != 0 || asked == 0) {
            System.exit(1);
        }
    }
}
