import java.util.function.IntToLongFunction;

/** Holds one number of a call against its bounds: the last that is allowed, the first that is not, on either side. */
final class Bounds {
    private static final int[] FAR = {Integer.MIN_VALUE, Integer.MIN_VALUE + 1, -65536, -1000, -256, -100, -32, 32, 100, 256, 1000,
        65536, 1 << 30, Integer.MAX_VALUE - 1, Integer.MAX_VALUE};

    private Bounds() {
    }

    /** Numbers beyond the bounds: the next ones, far ones, and those that a cut to fewer bits would make good ones. */
    static int[] beyond(int least, int most) {
        int[] some = new int[10 + 2 * FAR.length];
        some[0] = least - 1;
        some[1] = most + 1;
        some[2] = least - 2;
        some[3] = most + 2;
        some[4] = -most;
        some[5] = -1 - least;
        some[6] = -1 - most;
        some[7] = Integer.MIN_VALUE + most;
        some[8] = Integer.MAX_VALUE - most;
        some[9] = ~Integer.MAX_VALUE ^ least;
        for (int i = 0; i < FAR.length; i++) {
            some[10 + 2 * i] = FAR[i];
            some[11 + 2 * i] = FAR[i] + least;
        }
        int found = 0;
        for (int number : some) {
            if (number < least || number > most) {
                some[found] = number;
                found++;
            }
        }
        return java.util.Arrays.copyOf(some, found);
    }

    /** The call is made on an object of its own each time, lest one call's answer hang on the one before. */
    static void are(String call, IntToLongFunction asked, long refusal, int least, int most) {
        for (int number : beyond(least, most)) {
            Due.is(call + " by " + number, asked.applyAsLong(number), refusal);
        }
        for (int number = least; number <= most; number++) {
            Due.is(call + " by " + number + " is not refused", asked.applyAsLong(number) == refusal ? 0 : 1, 1);
        }
    }

    /** As above, with the answers that are due at the least and the greatest number. */
    static void are(String call, IntToLongFunction asked, int least, long atLeast, int most, long atMost) {
        are(call, asked, ShoesAtLaw.BAD, least, most);
        Due.is(call + " by the least, " + least, asked.applyAsLong(least), atLeast);
        Due.is(call + " by the greatest, " + most, asked.applyAsLong(most), atMost);
    }
}
