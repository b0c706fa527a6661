/** A pair of shoes at law: goods to part between LEFT (0) and RIGHT (1), steps, soles, judges, images. */
public final class ShoesAtLaw {
    public static final int BAD = -1, STATE = -2, FULL = -3, NONE = -9;
    public static final int NO = -1000000;

    private static final int MAX_LETTERS = 200;
    private static final int MAX_GOODS = 6;
    private static final int MAX_PAIRS = 4;
    private static final int MAX_WORTH = 20;
    private static final int MAX_HOPS = 3;
    private static final int MAX_CELLS = 6;
    private static final int MAX_STEPS = 60;
    private static final int MAX_DEEDS = 10;
    private static final int MAX_SEEN = 6;
    private static final int KINDS = 6;
    private static final int SETS = 1 << MAX_GOODS;
    private static final int PART_STEPS = 30;
    private static final int RIGHT = 1;
    private static final int TABLE = 2;
    private static final int PLACES = 3;
    private static final int STEP_DEED = -1;

    private final Reader text = new Reader();
    private Suit told = new Suit();
    private Suit draft = new Suit();
    private final Now present = new Now();
    private final Now firstImage = new Now();
    private final Now secondImage = new Now();
    private final Partings partings = new Partings();
    private final Judge[] kinds = new Judge[KINDS];
    // The latest gives() and steps(), oldest first: 3 times the good and whose it was, or STEP_DEED.
    private final int[] deeds = new int[MAX_DEEDS];
    private int deedCount;
    private final int[] seenFoot = new int[MAX_SEEN];
    private final int[] seenCell = new int[MAX_SEEN];
    private final int[] seenWear = new int[MAX_SEEN];
    private int seenCount;
    private long theTrace;

    public ShoesAtLaw() {
        kinds[0] = new Judge();
        kinds[1] = new Cobbler();
        kinds[2] = new Umbrella();
        kinds[3] = new Master();
        kinds[4] = new Torn();
        kinds[5] = new Third();
        beginAnew();
    }

    // ---- the suit

    public int type(int letter) {
        if (letter < 0 || letter > 255) {
            return BAD;
        }
        return text.add(letter) ? text.length : FULL;
    }

    public int clear() {
        int had = text.length;
        text.empty();
        return had;
    }

    public int suit() {
        int items = text.read(draft);
        if (items < 0) {
            return items;
        }
        draft.weigh();
        Suit before = told;
        told = draft;
        draft = before;
        text.empty();
        beginAnew();
        return items;
    }

    public int good(int g, int what) {
        if (!isGood(g) || what < 0 || what > 2) {
            return BAD;
        }
        return what == 2 ? present.whose(g) : told.worthOf(what, g);
    }

    public int values(int side, int set) {
        if (!isSide(side) || set < 0 || set > told.all()) {
            return BAD;
        }
        return told.valueOf(side, set);
    }

    public int now(int what) {
        if (what < 0 || what > 4) {
            return BAD;
        }
        if (what == 3) {
            return present.stepCount;
        }
        return what == 4 ? deedCount : present.setOf(what, told.goods);
    }

    // ---- what is done

    public int gives(int g, int to) {
        if (!isGood(g) || to < 0 || to > TABLE) {
            return BAD;
        }
        int from = present.whose(g);
        present.put(g, to);
        remember(PLACES * g + from);
        return from;
    }

    public int steps(int foot) {
        if (!isSide(foot)) {
            return BAD;
        }
        int ahead = present.stepsOf(foot);
        if (!present.walk(foot)) {
            return FULL;
        }
        remember(STEP_DEED);
        return told.wear(ahead + 1, told.cellBehind(ahead));
    }

    public int undo() {
        if (deedCount <= 0 || deedCount > MAX_DEEDS) {
            return STATE;
        }
        deedCount--;
        int deed = deeds[deedCount];
        if (deed == STEP_DEED) {
            present.unwalk();
        } else {
            present.put(deed / PLACES, deed % PLACES);
        }
        return deedCount;
    }

    // ---- partings

    public int envy(int side) {
        return isSide(side) ? envyOf(side) : BAD;
    }

    public int fair(int what) {
        if (what < 0 || what > 3) {
            return BAD;
        }
        if (what == 0) {
            return partings.fairCount(told);
        }
        int best = partings.best(told);
        if (best == NONE || what == 1) {
            return best;
        }
        int much = partings.total(told, best);
        return what == 2 ? much : partings.mostTotal(told) - much;
    }

    public int cut(int side, int what) {
        if (!isSide(side) || what < 0 || what > 1) {
            return BAD;
        }
        int set = partings.bestCut(told, side);
        return what == 1 ? set : partings.leftToCutter(told, side, set);
    }

    public int byTurns(int side, int what) {
        if (!isSide(side) || what < 0 || what > 2) {
            return BAD;
        }
        int table = present.setOf(TABLE, told.goods);
        int end = Partings.outcome(told, present.setOf(RIGHT, told.goods), table, side, 0);
        if (what == 2) {
            return end < SETS ? NONE : end / SETS - 1;
        }
        return told.valueOf(what, told.ownIn(what, end % SETS));
    }

    public int lies(int side, int what) {
        if (!isSide(side) || what < 0 || what > 1) {
            return BAD;
        }
        partings.seekLie(told, side);
        return what == 0 ? partings.gain : partings.lie;
    }

    public int sell(int c) {
        return c < 0 || c > 9 ? BAD : partings.greatestSale(told, c);
    }

    public int adds(int side) {
        if (!isSide(side)) {
            return BAD;
        }
        return told.valueOf(side, told.all()) <= told.worthAlone(side, told.all()) ? 1 : 0;
    }

    public int odds(int p, int what) {
        if (p < 0 || p > 10 || what < 0 || what > 1) {
            return BAD;
        }
        int upper = partings.fairLots(told, p);
        int lower = power(10, told.goods);
        int divisor = greatestDivisor(upper, lower);
        if (divisor < 1) {
            divisor = 1;
        }
        return (what == 0 ? upper : lower) / divisor;
    }

    // ---- steps

    public int foot(int i) {
        return i < 0 || i >= present.stepCount ? BAD : present.footOf(i);
    }

    public int worn(int foot, int cell) {
        if (!isSide(foot) || !isCell(cell)) {
            return BAD;
        }
        return told.wear(present.stepsOf(foot), cell);
    }

    public int judge(int what) {
        if (what < 0 || what > 2) {
            return BAD;
        }
        if (what == 0) {
            return present.firstRunOver(told.hops + 1);
        }
        return what == 1 ? present.longestRun() : present.changes();
    }

    public int saw(int foot, int cell, int v) {
        if (!isSide(foot) || !isCell(cell) || v < 0 || v > MAX_STEPS) {
            return BAD;
        }
        if (seenCount < 0 || seenCount >= MAX_SEEN) {
            return FULL;
        }
        seenFoot[seenCount] = foot;
        seenCell[seenCount] = cell;
        seenWear[seenCount] = v;
        seenCount++;
        return seenCount;
    }

    public int forget() {
        int had = seenCount;
        seenCount = 0;
        return had;
    }

    public int wrong(int part) {
        if (part < 0 || part > 1) {
            return BAD;
        }
        int left = present.stepsOf(0);
        int right = present.stepsOf(1);
        // A sole tells only how many steps its foot made, so all steps of one foot are wrong alike.
        boolean leftWrong = agrees(left - 1, right + 1);
        boolean rightWrong = agrees(left + 1, right - 1);
        int first = part * PART_STEPS;
        int bits = 0;
        for (int k = 0; k < PART_STEPS && first + k < present.stepCount; k++) {
            if (present.footOf(first + k) == RIGHT ? rightWrong : leftWrong) {
                bits |= 1 << k;
            }
        }
        return bits;
    }

    public int asTold() {
        return agrees(present.stepsOf(0), present.stepsOf(1)) ? 1 : 0;
    }

    public int soonest(int n, int a, int b) {
        if (n < 1 || n > 99 || a < 1 || a > 9 || b < 1 || b > 9) {
            return BAD;
        }
        int fewest = NONE;
        for (int left = 0; left <= MAX_STEPS && left * a <= n; left++) {
            int rest = n - left * a;
            int right = rest / b;
            int all = left + right;
            if (right * b == rest && all <= MAX_STEPS && canBeWalked(left, right)
                    && (fewest == NONE || all < fewest)) {
                fewest = all;
            }
        }
        return fewest;
    }

    // ---- kinds, images

    public int rate(int kind, int side) {
        if (kind < 0 || kind >= KINDS || !isSide(side)) {
            return NO;
        }
        Judge asked = kinds[kind];
        return asked == null ? NO : asked.verdict(this, side);
    }

    public int keep(int image) {
        if (image < 0 || image > 1) {
            return BAD;
        }
        Now kept = imageOf(image);
        kept.become(present);
        kept.filled = true;
        return kept.stepCount;
    }

    public int back(int image) {
        if (image < 0 || image > 1) {
            return BAD;
        }
        Now kept = imageOf(image);
        if (!kept.filled) {
            return STATE;
        }
        present.become(kept);
        deedCount = 0;
        return present.stepCount;
    }

    public int count(int what) {
        switch (what) {
            case 0:
                return told.goods;
            case 1:
                return told.pairs;
            case 2:
                return told.hops;
            case 3:
                return told.cells;
            case 4:
                return seenCount;
            case 5:
                return text.length;
            default:
                return BAD;
        }
    }

    public long trace() {
        return theTrace;
    }

    // ---- what the calls share

    private void beginAnew() {
        present.begin();
        firstImage.filled = false;
        secondImage.filled = false;
        deedCount = 0;
        seenCount = 0;
    }

    private boolean isGood(int g) {
        return g >= 0 && g < told.goods;
    }

    private boolean isCell(int cell) {
        return cell >= 0 && cell < told.cells;
    }

    private static boolean isSide(int side) {
        return side == 0 || side == 1;
    }

    private Now imageOf(int image) {
        return image == 0 ? firstImage : secondImage;
    }

    private void remember(int deed) {
        if (deedCount >= MAX_DEEDS) {
            System.arraycopy(deeds, 1, deeds, 0, MAX_DEEDS - 1);
            deedCount = MAX_DEEDS - 1;
        }
        if (deedCount >= 0) {
            deeds[deedCount] = deed;
            deedCount++;
        }
    }

    private int ownValue(int side) {
        return told.valueOf(side, present.setOf(side, told.goods));
    }

    private int envyOf(int side) {
        int others = told.valueOf(side, present.setOf(1 - side, told.goods));
        return Math.max(0, others - ownValue(side));
    }

    private boolean agrees(int leftSteps, int rightSteps) {
        for (int i = 0; i < seenCount && i < MAX_SEEN; i++) {
            int made = seenFoot[i] == RIGHT ? rightSteps : leftSteps;
            if (told.wear(made, seenCell[i]) != seenWear[i]) {
                return false;
            }
        }
        return true;
    }

    // The runs of one foot lie between the other's steps: one run more than there are of those, each of hops + 1 at most.
    private boolean canBeWalked(int left, int right) {
        int run = told.hops + 1;
        return left <= (right + 1) * run && right <= (left + 1) * run;
    }

    private static int power(int base, int exponent) {
        int answer = 1;
        for (int i = 0; i < exponent && i < MAX_GOODS; i++) {
            answer *= base;
        }
        return answer;
    }

    private static int greatestDivisor(int a, int b) {
        int high = a;
        int low = b;
        // Each turn makes low smaller, and it is at most 10 to the 6th at first.
        for (int i = 0; i < 1000000 && low > 0; i++) {
            int over = high % low;
            high = low;
            low = over;
        }
        return high;
    }

    /** The text, and how it is read. */
    private static final class Reader {
        private static final int NUMBER = 256;
        private static final int FAULTY = 257;
        private static final int END = 258;

        private final int[] letters = new int[MAX_LETTERS];
        private int length;
        private int place;
        private int tokenStart;
        private int token;
        private int number;
        private boolean hopsTold;
        private boolean cellsTold;

        boolean add(int letter) {
            if (length < 0 || length >= MAX_LETTERS) {
                return false;
            }
            letters[length] = letter;
            length++;
            return true;
        }

        void empty() {
            length = 0;
        }

        /** How many items were read into a suit; -10 less the place of the fault. */
        int read(Suit into) {
            into.begin();
            place = 0;
            hopsTold = false;
            cellsTold = false;
            int items = 0;
            nextToken();
            while (items < MAX_LETTERS && token != END) {
                boolean stands;
                switch (token) {
                    case 'g':
                        stands = readGood(into);
                        break;
                    case 'p':
                        stands = readPair(into);
                        break;
                    case 'h':
                        stands = readHops(into);
                        break;
                    case 'c':
                        stands = readCells(into);
                        break;
                    default:
                        stands = false;
                }
                if (!stands) {
                    return -10 - tokenStart;
                }
                items++;
                nextToken();
            }
            return items;
        }

        private boolean readGood(Suit into) {
            if (into.goods >= MAX_GOODS || !nextNumber(0, MAX_WORTH)) {
                return false;
            }
            int toLeft = number;
            if (!nextNumber(0, MAX_WORTH)) {
                return false;
            }
            into.addGood(toLeft, number);
            return nextEnds();
        }

        private boolean readPair(Suit into) {
            if (into.pairs >= MAX_PAIRS || !nextNumber(0, into.goods - 1)) {
                return false;
            }
            int g = number;
            if (!nextNumber(0, into.goods - 1) || number == g) {
                return false;
            }
            int h = number;
            if (!nextNumber(0, MAX_WORTH)) {
                return false;
            }
            int toLeft = number;
            if (!nextNumber(0, MAX_WORTH)) {
                return false;
            }
            into.addPair(1 << g | 1 << h, toLeft, number);
            return nextEnds();
        }

        private boolean readHops(Suit into) {
            if (hopsTold || !nextNumber(0, MAX_HOPS)) {
                return false;
            }
            hopsTold = true;
            into.hops = number;
            return nextEnds();
        }

        private boolean readCells(Suit into) {
            if (cellsTold || !nextNumber(1, MAX_CELLS)) {
                return false;
            }
            cellsTold = true;
            into.cells = number;
            return nextEnds();
        }

        private boolean nextNumber(int least, int most) {
            nextToken();
            return token == NUMBER && number >= least && number <= most;
        }

        private boolean nextEnds() {
            nextToken();
            return token == ';';
        }

        private int letterAt(int i) {
            return i >= 0 && i < length && i < MAX_LETTERS ? letters[i] : END;
        }

        // A letter that no item has is a token of its own, which then stands nowhere.
        private void nextToken() {
            while (place < length && letterAt(place) == ' ') {
                place++;
            }
            tokenStart = place;
            token = letterAt(place);
            if (isDigit(token)) {
                takeNumber();
            } else if (place < length) {
                place++;
            }
        }

        private void takeNumber() {
            number = 0;
            while (place < length && isDigit(letterAt(place))) {
                // Held low, lest a long row of digits wrap around into what may be.
                number = Math.min(10 * number + letterAt(place) - '0', MAX_WORTH + 1);
                place++;
            }
            boolean zeroAhead = place - tokenStart > 1 && letterAt(tokenStart) == '0';
            token = zeroAhead || number > MAX_WORTH ? FAULTY : NUMBER;
        }

        private static boolean isDigit(int letter) {
            return letter >= '0' && letter <= '9';
        }
    }

    /** What a text tells: goods, pairs, hops, cells. */
    private static final class Suit {
        private int goods;
        private int pairs;
        private int hops;
        private int cells;
        private final int[] worth = new int[2 * MAX_GOODS];
        private final int[] pairSet = new int[MAX_PAIRS];
        private final int[] more = new int[2 * MAX_PAIRS];
        // Every set's value to either side: partings ask for them too often to add them up each time.
        private final int[] value = new int[2 * SETS];

        Suit() {
            begin();
        }

        void begin() {
            goods = 0;
            pairs = 0;
            hops = 1;
            cells = MAX_CELLS;
        }

        void addGood(int toLeft, int toRight) {
            if (goods < 0 || goods >= MAX_GOODS) {
                return;
            }
            worth[goods] = toLeft;
            worth[MAX_GOODS + goods] = toRight;
            goods++;
        }

        void addPair(int set, int toLeft, int toRight) {
            if (pairs < 0 || pairs >= MAX_PAIRS) {
                return;
            }
            pairSet[pairs] = set;
            more[pairs] = toLeft;
            more[MAX_PAIRS + pairs] = toRight;
            pairs++;
        }

        void weigh() {
            for (int side = 0; side < 2; side++) {
                for (int set = 0; set <= all() && set < SETS; set++) {
                    value[side * SETS + set] = worthAlone(side, set) + moreOf(side, set);
                }
            }
        }

        int all() {
            return (1 << goods) - 1;
        }

        int worthOf(int side, int g) {
            return isSide(side) && g >= 0 && g < MAX_GOODS ? worth[side * MAX_GOODS + g] : 0;
        }

        int worthAlone(int side, int set) {
            int sum = 0;
            for (int g = 0; g < goods; g++) {
                if ((set >> g & 1) == 1) {
                    sum += worthOf(side, g);
                }
            }
            return sum;
        }

        private int moreOf(int side, int set) {
            int sum = 0;
            for (int i = 0; i < pairs && i < MAX_PAIRS; i++) {
                if ((set & pairSet[i]) == pairSet[i]) {
                    sum += more[side == RIGHT ? MAX_PAIRS + i : i];
                }
            }
            return sum;
        }

        int valueOf(int side, int set) {
            return isSide(side) && set >= 0 && set < SETS ? value[side * SETS + set] : 0;
        }

        /** A side's goods in a parting, told by RIGHT's. */
        int ownIn(int side, int bits) {
            return side == RIGHT ? bits : all() ^ bits;
        }

        int cellBehind(int ahead) {
            return cells < 1 ? 0 : ahead % cells;
        }

        /** How worn a cell is behind so many steps of its foot. */
        int wear(int made, int cell) {
            return cells < 1 || made <= cell ? 0 : (made - cell + cells - 1) / cells;
        }
    }

    /** Whose the goods are, and the steps: what an image keeps. */
    private static final class Now {
        private final int[] owner = new int[MAX_GOODS];
        private final int[] feet = new int[MAX_STEPS];
        private int stepCount;
        private boolean filled;

        void begin() {
            for (int g = 0; g < MAX_GOODS; g++) {
                owner[g] = TABLE;
            }
            stepCount = 0;
        }

        void become(Now other) {
            System.arraycopy(other.owner, 0, owner, 0, MAX_GOODS);
            System.arraycopy(other.feet, 0, feet, 0, MAX_STEPS);
            stepCount = other.stepCount;
        }

        int whose(int g) {
            return g >= 0 && g < MAX_GOODS ? owner[g] : TABLE;
        }

        void put(int g, int to) {
            if (g >= 0 && g < MAX_GOODS) {
                owner[g] = to;
            }
        }

        int setOf(int whose, int goods) {
            int set = 0;
            for (int g = 0; g < goods && g < MAX_GOODS; g++) {
                if (owner[g] == whose) {
                    set |= 1 << g;
                }
            }
            return set;
        }

        boolean walk(int foot) {
            if (stepCount < 0 || stepCount >= MAX_STEPS) {
                return false;
            }
            feet[stepCount] = foot;
            stepCount++;
            return true;
        }

        void unwalk() {
            if (stepCount > 0) {
                stepCount--;
            }
        }

        int footOf(int i) {
            return i >= 0 && i < MAX_STEPS ? feet[i] : NONE;
        }

        int stepsOf(int foot) {
            int made = 0;
            for (int i = 0; i < stepCount; i++) {
                if (footOf(i) == foot) {
                    made++;
                }
            }
            return made;
        }

        /** The first step that makes a run of one foot longer than that; NONE. */
        int firstRunOver(int most) {
            int run = 0;
            for (int i = 0; i < stepCount; i++) {
                run = changesAt(i) ? 1 : run + 1;
                if (run > most) {
                    return i;
                }
            }
            return NONE;
        }

        int longestRun() {
            int run = 0;
            int longest = 0;
            for (int i = 0; i < stepCount; i++) {
                run = changesAt(i) ? 1 : run + 1;
                longest = Math.max(longest, run);
            }
            return longest;
        }

        int changes() {
            int changes = 0;
            for (int i = 0; i < stepCount; i++) {
                if (changesAt(i)) {
                    changes++;
                }
            }
            return changes;
        }

        private boolean changesAt(int i) {
            return i > 0 && footOf(i) != footOf(i - 1);
        }
    }

    /** All ways to part a suit's goods, each told by RIGHT's goods as bits. */
    private static final class Partings {
        // Of the partings that leave the other side without envy, least bits first: what a lie may bring about.
        private final int[] own = new int[SETS];
        private final int[] ahead = new int[SETS];
        private final int[] sum = new int[SETS];
        private int found;
        private int gain;
        private int lie;

        int total(Suit suit, int bits) {
            return suit.valueOf(0, suit.ownIn(0, bits)) + suit.valueOf(1, bits);
        }

        /** How much more a side values its own than the other's. */
        private int lead(Suit suit, int side, int bits) {
            int mine = suit.ownIn(side, bits);
            return suit.valueOf(side, mine) - suit.valueOf(side, suit.all() ^ mine);
        }

        private boolean isFair(Suit suit, int bits) {
            return lead(suit, 0, bits) >= 0 && lead(suit, 1, bits) >= 0;
        }

        int fairCount(Suit suit) {
            int fair = 0;
            for (int bits = 0; bits <= suit.all(); bits++) {
                if (isFair(suit, bits)) {
                    fair++;
                }
            }
            return fair;
        }

        int best(Suit suit) {
            int best = NONE;
            int most = -1;
            for (int bits = 0; bits <= suit.all(); bits++) {
                int much = total(suit, bits);
                if (much > most && isFair(suit, bits)) {
                    most = much;
                    best = bits;
                }
            }
            return best;
        }

        int mostTotal(Suit suit) {
            int most = 0;
            for (int bits = 0; bits <= suit.all(); bits++) {
                most = Math.max(most, total(suit, bits));
            }
            return most;
        }

        /** What the one who cuts has, if a set is cut off from the rest. */
        int leftToCutter(Suit suit, int side, int set) {
            int rest = suit.all() ^ set;
            boolean setTaken = suit.valueOf(1 - side, set) > suit.valueOf(1 - side, rest);
            return suit.valueOf(side, setTaken ? rest : set);
        }

        int bestCut(Suit suit, int side) {
            int best = 0;
            int most = -1;
            for (int set = 0; set <= suit.all(); set++) {
                int much = leftToCutter(suit, side, set);
                if (much > most) {
                    most = much;
                    best = set;
                }
            }
            return best;
        }

        /** RIGHT's goods in the end, and SETS times the good taken first and 1 (0: none is taken). */
        private static int outcome(Suit suit, int right, int table, int turn, int depth) {
            if (table == 0 || depth >= MAX_GOODS) {
                return right;
            }
            int best = right;
            int most = -1;
            for (int g = 0; g < suit.goods; g++) {
                int bit = 1 << g;
                if ((table & bit) != 0) {
                    int taken = turn == RIGHT ? right | bit : right;
                    int end = outcome(suit, taken, table ^ bit, 1 - turn, depth + 1) % SETS;
                    int much = suit.valueOf(turn, suit.ownIn(turn, end));
                    if (much > most) {
                        most = much;
                        best = end + SETS * (g + 1);
                    }
                }
            }
            return best;
        }

        /** Finds the first lie that gains a side most, and what it gains. */
        void seekLie(Suit suit, int side) {
            gain = 0;
            lie = NONE;
            listOthersFair(suit, side);
            int honest = suit.valueOf(side, ownInBestTold(0, 0));
            for (int g = 0; g < suit.goods; g++) {
                for (int worth = 0; worth <= MAX_WORTH; worth++) {
                    int change = worth - suit.worthOf(side, g);
                    int won = suit.valueOf(side, ownInBestTold(1 << g, change)) - honest;
                    if (change != 0 && won > gain) {
                        gain = won;
                        lie = 100 * g + worth;
                    }
                }
            }
        }

        private void listOthersFair(Suit suit, int side) {
            found = 0;
            for (int bits = 0; bits <= suit.all(); bits++) {
                if (lead(suit, 1 - side, bits) >= 0 && found >= 0 && found < SETS) {
                    own[found] = suit.ownIn(side, bits);
                    ahead[found] = lead(suit, side, bits);
                    sum[found] = total(suit, bits);
                    found++;
                }
            }
        }

        /** A side's goods by BEST, if it tells so much more worth of one good; none, if there is no BEST. */
        private int ownInBestTold(int good, int change) {
            int best = 0;
            int most = -1;
            for (int i = 0; i < found && i < SETS; i++) {
                boolean has = (own[i] & good) != 0;
                int toldAhead = has ? ahead[i] + change : ahead[i] - change;
                int toldSum = has ? sum[i] + change : sum[i];
                if (toldAhead >= 0 && toldSum > most) {
                    most = toldSum;
                    best = own[i];
                }
            }
            return best;
        }

        int greatestSale(Suit suit, int c) {
            int best = 0;
            for (int set = 0; set <= suit.all(); set++) {
                int size = Integer.bitCount(set);
                boolean willing = suit.valueOf(0, set) <= c * size && suit.valueOf(1, set) <= c * size;
                if (willing && size > Integer.bitCount(best)) {
                    best = set;
                }
            }
            return best;
        }

        /** How many of 10 to the number of goods lots are fair, if p of 10 give a good to LEFT. */
        int fairLots(Suit suit, int p) {
            int lots = 0;
            for (int bits = 0; bits <= suit.all(); bits++) {
                if (isFair(suit, bits)) {
                    int rights = Integer.bitCount(bits);
                    lots += power(p, suit.goods - rights) * power(10 - p, rights);
                }
            }
            return lots;
        }
    }

    private static class Judge {
        int verdict(ShoesAtLaw court, int side) {
            court.theTrace += 1;
            return court.ownValue(side);
        }
    }

    private static class Cobbler extends Judge {
        int verdict(ShoesAtLaw court, int side) {
            court.theTrace += 10;
            return super.verdict(court, side) + court.present.stepsOf(side);
        }
    }

    private static class Umbrella extends Judge {
        int verdict(ShoesAtLaw court, int side) {
            court.theTrace += 100;
            return super.verdict(court, side) - court.envyOf(side);
        }
    }

    private static final class Master extends Cobbler {
        int verdict(ShoesAtLaw court, int side) {
            court.theTrace += 1000;
            return 2 * super.verdict(court, side);
        }
    }

    private static final class Torn extends Umbrella {
        int verdict(ShoesAtLaw court, int side) {
            court.theTrace += 10000;
            return super.verdict(court, side) + side;
        }
    }

    private static final class Third extends Judge {
        int verdict(ShoesAtLaw court, int side) {
            court.theTrace += 100000;
            return super.verdict(court, side) + Integer.bitCount(court.present.setOf(TABLE, court.told.goods));
        }
    }
}
