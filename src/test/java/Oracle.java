import java.math.BigInteger;
import java.util.ArrayDeque;
import java.util.ArrayList;
import java.util.Arrays;
import java.util.Deque;
import java.util.HashMap;
import java.util.List;
import java.util.Map;
import java.util.Set;
import java.util.HashSet;

/** The document told a second time, in the plainest and slowest way, to hold the class against. */
final class Oracle {
    private static final int BAD = -1, STATE = -2, FULL = -3, NONE = -9, NO = -1000000;

    private record Pair(int g, int h, int left, int right) {
        int more(int side) {
            return side == 0 ? left : right;
        }
    }

    private record Token(String sign, int place) {
    }

    private record Seen(int foot, int cell, int wear) {
    }

    /** Whose the goods are, and the steps. */
    private record State(List<Integer> owner, List<Integer> feet) {
        static State of(State other) {
            return new State(new ArrayList<>(other.owner), new ArrayList<>(other.feet));
        }
    }

    private String text = "";
    private List<int[]> goods = new ArrayList<>();
    private List<Pair> pairs = new ArrayList<>();
    private int hops = 1;
    private int cells = 6;
    private State now = new State(new ArrayList<>(), new ArrayList<>());
    private final Deque<State> before = new ArrayDeque<>();
    private final List<Seen> seen = new ArrayList<>();
    private final Map<Integer, State> images = new HashMap<>();
    private long trace = 0;

    private static boolean out(int x, int least, int most) {
        return x < least || x > most;
    }

    int type(int letter) {
        if (out(letter, 0, 255)) {
            return BAD;
        }
        if (text.length() == 200) {
            return FULL;
        }
        text += (char) letter;
        return text.length();
    }

    int clear() {
        int had = text.length();
        text = "";
        return had;
    }

    // ---- the text

    private List<Token> tokens() {
        List<Token> tokens = new ArrayList<>();
        int i = 0;
        while (i < text.length()) {
            char c = text.charAt(i);
            int j = i + 1;
            if (c >= '0' && c <= '9') {
                while (j < text.length() && text.charAt(j) >= '0' && text.charAt(j) <= '9') {
                    j++;
                }
            }
            if (c != ' ') {
                tokens.add(new Token(text.substring(i, j), i));
            }
            i = j;
        }
        return tokens;
    }

    /** Whether a token is a number from least to most. */
    private static boolean isNumber(String sign, int least, int most) {
        for (int n = least; n <= most; n++) {
            if (sign.equals(Integer.toString(n))) {
                return true;
            }
        }
        return false;
    }

    /** Whether a token can stand behind those of an item (its own letter first), all of which can. */
    private static boolean canStand(List<String> item, String sign, int goods, int pairs, Set<String> once) {
        int at = item.size();
        if (at == 0) {
            return sign.equals("g") && goods < 6 || sign.equals("p") && pairs < 4
                || (sign.equals("h") || sign.equals("c")) && !once.contains(sign);
        }
        switch (item.get(0)) {
            case "g":
                return at <= 2 ? isNumber(sign, 0, 20) : sign.equals(";");
            case "p":
                if (at <= 2) {
                    return isNumber(sign, 0, goods - 1) && !(at == 2 && sign.equals(item.get(1)));
                }
                return at <= 4 ? isNumber(sign, 0, 20) : sign.equals(";");
            case "h":
                return at == 1 ? isNumber(sign, 0, 3) : sign.equals(";");
            default:
                return at == 1 ? isNumber(sign, 1, 6) : sign.equals(";");
        }
    }

    int suit() {
        List<int[]> newGoods = new ArrayList<>();
        List<Pair> newPairs = new ArrayList<>();
        int newHops = 1;
        int newCells = 6;
        Set<String> once = new HashSet<>();
        List<String> item = new ArrayList<>();
        int items = 0;
        for (Token t : tokens()) {
            if (!canStand(item, t.sign, newGoods.size(), newPairs.size(), once)) {
                return -10 - t.place;
            }
            item.add(t.sign);
            if (t.sign.equals(";")) {
                int[] n = new int[6];
                for (int i = 1; i < item.size() - 1; i++) {
                    n[i] = Integer.parseInt(item.get(i));
                }
                once.add(item.get(0));
                switch (item.get(0)) {
                    case "g" -> newGoods.add(new int[] {n[1], n[2]});
                    case "p" -> newPairs.add(new Pair(n[1], n[2], n[3], n[4]));
                    case "h" -> newHops = n[1];
                    default -> newCells = n[1];
                }
                items++;
                item.clear();
            }
        }
        if (!item.isEmpty()) {
            return -10 - text.length();
        }
        goods = newGoods;
        pairs = newPairs;
        hops = newHops;
        cells = newCells;
        text = "";
        now = new State(new ArrayList<>(), new ArrayList<>());
        for (int g = 0; g < goods.size(); g++) {
            now.owner.add(2);
        }
        before.clear();
        seen.clear();
        images.clear();
        return items;
    }

    // ---- goods

    int good(int g, int what) {
        if (out(g, 0, goods.size() - 1) || out(what, 0, 2)) {
            return BAD;
        }
        return what < 2 ? goods.get(g)[what] : now.owner.get(g);
    }

    private int valued(int side, Set<Integer> set) {
        int sum = 0;
        for (int g : set) {
            sum += goods.get(g)[side];
        }
        for (Pair p : pairs) {
            if (set.contains(p.g) && set.contains(p.h)) {
                sum += p.more(side);
            }
        }
        return sum;
    }

    private Set<Integer> ofBits(int bits) {
        Set<Integer> set = new HashSet<>();
        for (int g = 0; g < goods.size(); g++) {
            if ((bits & (1 << g)) != 0) {
                set.add(g);
            }
        }
        return set;
    }

    private Set<Integer> rest(Set<Integer> set) {
        Set<Integer> rest = ofBits(63);
        rest.removeAll(set);
        return rest;
    }

    private Set<Integer> has(int whose) {
        Set<Integer> set = new HashSet<>();
        for (int g = 0; g < goods.size(); g++) {
            if (now.owner.get(g) == whose) {
                set.add(g);
            }
        }
        return set;
    }

    private int bits(Set<Integer> set) {
        int bits = 0;
        for (int g : set) {
            bits += 1 << g;
        }
        return bits;
    }

    private int ways() {
        return 1 << goods.size();
    }

    int values(int side, int set) {
        if (out(side, 0, 1) || out(set, 0, ways() - 1)) {
            return BAD;
        }
        return valued(side, ofBits(set));
    }

    int now(int what) {
        return switch (what) {
            case 0, 1, 2 -> bits(has(what));
            case 3 -> now.feet.size();
            case 4 -> before.size();
            default -> BAD;
        };
    }

    private void remember() {
        before.addLast(State.of(now));
        if (before.size() > 10) {
            before.removeFirst();
        }
    }

    int gives(int g, int to) {
        if (out(g, 0, goods.size() - 1) || out(to, 0, 2)) {
            return BAD;
        }
        remember();
        return now.owner.set(g, to);
    }

    private int[][] soles(List<Integer> feet) {
        int[][] worn = new int[2][cells];
        int[] made = new int[2];
        for (int foot : feet) {
            worn[foot][made[foot] % cells]++;
            made[foot]++;
        }
        return worn;
    }

    private int made(int foot) {
        int made = 0;
        for (int f : now.feet) {
            made += f == foot ? 1 : 0;
        }
        return made;
    }

    int steps(int foot) {
        if (out(foot, 0, 1)) {
            return BAD;
        }
        if (now.feet.size() == 60) {
            return FULL;
        }
        int cell = made(foot) % cells;
        remember();
        now.feet.add(foot);
        return soles(now.feet)[foot][cell];
    }

    int undo() {
        if (before.isEmpty()) {
            return STATE;
        }
        now = before.removeLast();
        return before.size();
    }

    // ---- partings

    private int envied(int side, Set<Integer> own, Set<Integer> others) {
        return Math.max(0, valued(side, others) - valued(side, own));
    }

    int envy(int side) {
        return out(side, 0, 1) ? BAD : envied(side, has(side), has(1 - side));
    }

    private boolean isFair(int bits) {
        Set<Integer> right = ofBits(bits);
        return envied(0, rest(right), right) == 0 && envied(1, right, rest(right)) == 0;
    }

    private int together(int bits) {
        Set<Integer> right = ofBits(bits);
        return valued(0, rest(right)) + valued(1, right);
    }

    private int best() {
        int best = NONE;
        for (int bits = ways() - 1; bits >= 0; bits--) {
            if (isFair(bits) && (best == NONE || together(bits) >= together(best))) {
                best = bits;
            }
        }
        return best;
    }

    int fair(int what) {
        if (out(what, 0, 3)) {
            return BAD;
        }
        int many = 0;
        int most = 0;
        for (int bits = 0; bits < ways(); bits++) {
            many += isFair(bits) ? 1 : 0;
            most = Math.max(most, together(bits));
        }
        int best = best();
        if (what == 0) {
            return many;
        }
        if (best == NONE) {
            return NONE;
        }
        return what == 1 ? best : what == 2 ? together(best) : most - together(best);
    }

    int cut(int side, int what) {
        if (out(side, 0, 1) || out(what, 0, 1)) {
            return BAD;
        }
        int most = -1;
        int which = -1;
        for (int bits = 0; bits < ways(); bits++) {
            Set<Integer> set = ofBits(bits);
            boolean takesSet = valued(1 - side, set) > valued(1 - side, rest(set));
            int much = valued(side, takesSet ? rest(set) : set);
            if (much > most) {
                most = much;
                which = bits;
            }
        }
        return what == 0 ? most : which;
    }

    /** What LEFT and RIGHT value their own at in the end, and the good taken first. */
    private int[] play(List<Integer> owner, int turn) {
        int[] best = null;
        for (int g = 0; g < owner.size(); g++) {
            if (owner.get(g) == 2) {
                List<Integer> taken = new ArrayList<>(owner);
                taken.set(g, turn);
                int[] end = play(taken, 1 - turn);
                if (best == null || end[turn] > best[turn]) {
                    best = new int[] {end[0], end[1], g};
                }
            }
        }
        if (best != null) {
            return best;
        }
        Set<Integer> right = new HashSet<>();
        for (int g = 0; g < owner.size(); g++) {
            if (owner.get(g) == 1) {
                right.add(g);
            }
        }
        return new int[] {valued(0, rest(right)), valued(1, right), NONE};
    }

    int byTurns(int side, int what) {
        if (out(side, 0, 1) || out(what, 0, 2)) {
            return BAD;
        }
        return play(now.owner, side)[what];
    }

    int lies(int side, int what) {
        if (out(side, 0, 1) || out(what, 0, 1)) {
            return BAD;
        }
        int truth = best();
        int honest = truth == NONE ? 0 : valued(side, side == 1 ? ofBits(truth) : rest(ofBits(truth)));
        int gain = 0;
        int first = NONE;
        for (int g = 0; g < goods.size(); g++) {
            int worth = goods.get(g)[side];
            for (int w = 0; w <= 20; w++) {
                goods.get(g)[side] = w;
                int by = best();
                goods.get(g)[side] = worth;
                int gets = by == NONE ? 0 : valued(side, side == 1 ? ofBits(by) : rest(ofBits(by)));
                if (gets - honest > gain) {
                    gain = gets - honest;
                    first = 100 * g + w;
                }
            }
        }
        return what == 0 ? gain : first;
    }

    int sell(int c) {
        if (out(c, 0, 9)) {
            return BAD;
        }
        for (int size = goods.size(); size > 0; size--) {
            for (int bits = 0; bits < ways(); bits++) {
                Set<Integer> set = ofBits(bits);
                if (set.size() == size && valued(0, set) <= c * size && valued(1, set) <= c * size) {
                    return bits;
                }
            }
        }
        return 0;
    }

    int adds(int side) {
        if (out(side, 0, 1)) {
            return BAD;
        }
        for (Pair p : pairs) {
            if (p.more(side) > 0) {
                return 0;
            }
        }
        return 1;
    }

    int odds(int p, int what) {
        if (out(p, 0, 10) || out(what, 0, 1)) {
            return BAD;
        }
        BigInteger upper = BigInteger.ZERO;
        for (int bits = 0; bits < ways(); bits++) {
            if (isFair(bits)) {
                BigInteger lots = BigInteger.ONE;
                for (int g = 0; g < goods.size(); g++) {
                    lots = lots.multiply(BigInteger.valueOf((bits & (1 << g)) == 0 ? p : 10 - p));
                }
                upper = upper.add(lots);
            }
        }
        BigInteger lower = BigInteger.TEN.pow(goods.size());
        return (what == 0 ? upper : lower).divide(upper.gcd(lower)).intValueExact();
    }

    // ---- steps

    int foot(int i) {
        return out(i, 0, now.feet.size() - 1) ? BAD : now.feet.get(i);
    }

    int worn(int foot, int cell) {
        return out(foot, 0, 1) || out(cell, 0, cells - 1) ? BAD : soles(now.feet)[foot][cell];
    }

    private int runBefore(int i) {
        int run = 0;
        for (int j = i - 1; j >= 0 && now.feet.get(j).equals(now.feet.get(i)); j--) {
            run++;
        }
        return run;
    }

    int judge(int what) {
        int cannot = NONE;
        int longest = 0;
        int led = 0;
        for (int i = now.feet.size() - 1; i >= 0; i--) {
            int run = runBefore(i);
            if (run >= hops + 1) {
                cannot = i;
            }
            longest = Math.max(longest, run + 1);
            led += i > 0 && run == 0 ? 1 : 0;
        }
        return switch (what) {
            case 0 -> cannot;
            case 1 -> longest;
            case 2 -> led;
            default -> BAD;
        };
    }

    int saw(int foot, int cell, int v) {
        if (out(foot, 0, 1) || out(cell, 0, cells - 1) || out(v, 0, 60)) {
            return BAD;
        }
        if (seen.size() == 6) {
            return FULL;
        }
        seen.add(new Seen(foot, cell, v));
        return seen.size();
    }

    int forget() {
        int had = seen.size();
        seen.clear();
        return had;
    }

    private boolean allSeenIn(List<Integer> feet) {
        int[][] soles = soles(feet);
        for (Seen s : seen) {
            if (soles[s.foot][s.cell] != s.wear) {
                return false;
            }
        }
        return true;
    }

    int wrong(int part) {
        if (out(part, 0, 1)) {
            return BAD;
        }
        long bits = 0;
        for (int i = 0; i < now.feet.size(); i++) {
            List<Integer> feet = new ArrayList<>(now.feet);
            feet.set(i, 1 - feet.get(i));
            if (allSeenIn(feet)) {
                bits |= 1L << i;
            }
        }
        return (int) (part == 0 ? bits & ((1L << 30) - 1) : bits >> 30);
    }

    int asTold() {
        return allSeenIn(now.feet) ? 1 : 0;
    }

    int soonest(int n, int a, int b) {
        if (out(n, 1, 99) || out(a, 1, 9) || out(b, 1, 9)) {
            return BAD;
        }
        // From walk to walk, one step more each time: where one is, the foot that stepped last, how often it did.
        Set<List<Integer>> reached = new HashSet<>();
        reached.add(Arrays.asList(0, NONE, 0));
        for (int steps = 1; steps <= 60; steps++) {
            Set<List<Integer>> next = new HashSet<>();
            for (List<Integer> r : reached) {
                for (int foot = 0; foot < 2; foot++) {
                    int run = r.get(1) == foot ? r.get(2) + 1 : 1;
                    int at = r.get(0) + (foot == 0 ? a : b);
                    if (run <= hops + 1 && at <= n) {
                        next.add(Arrays.asList(at, foot, run));
                    }
                    if (run <= hops + 1 && at == n) {
                        return steps;
                    }
                }
            }
            reached = next;
        }
        return NONE;
    }

    // ---- kinds, images

    int rate(int kind, int side) {
        if (out(kind, 0, 5) || out(side, 0, 1)) {
            return NO;
        }
        int own = valued(side, has(side));
        int[] traced = {1, 11, 101, 1011, 10101, 100001};
        trace += traced[kind];
        return switch (kind) {
            case 0 -> own;
            case 1 -> own + made(side);
            case 2 -> own - envy(side);
            case 3 -> 2 * (own + made(side));
            case 4 -> own - envy(side) + side;
            default -> own + has(2).size();
        };
    }

    int keep(int image) {
        if (out(image, 0, 1)) {
            return BAD;
        }
        images.put(image, State.of(now));
        return now.feet.size();
    }

    int back(int image) {
        if (out(image, 0, 1)) {
            return BAD;
        }
        if (!images.containsKey(image)) {
            return STATE;
        }
        now = State.of(images.get(image));
        before.clear();
        return now.feet.size();
    }

    int count(int what) {
        int[] counts = {goods.size(), pairs.size(), hops, cells, seen.size(), text.length()};
        return out(what, 0, 5) ? BAD : counts[what];
    }

    long trace() {
        return trace;
    }
}
