import java.lang.management.ManagementFactory;

/** All calls live in one room, so no call may make anything; and none may throw, be its numbers what they may. */
public final class RoomTest {
    private static final int[] NUMBERS = {Integer.MIN_VALUE, -65, -2, -1, 0, 1, 2, 3, 5, 6, 9, 32, 59, 60, 63, 64, 103, 255, 256,
        Integer.MAX_VALUE};

    public static void main(String[] args) {
        everyNumber(new ShoesAtLaw());
        everyNumber(Due.told("g20 20;g1 2;g3 4;g5 6;g7 8;g9 10;p0 1 1 1;p2 3 4 5;p4 5 6 7;p0 5 20 20;h3;c1;"));
        long before = made();
        ShoesAtLaw x = Due.told("g20 20;g1 2;g3 4;g5 6;g7 8;g9 10;p0 1 1 1;p2 3 4 5;p4 5 6 7;p0 5 20 20;h3;c1;");
        long object = made() - before;
        Due.is("an object takes less than 16 KiB, here " + object, object < 16384 ? 1 : 0, 1);
        dearCalls(x);
        before = made();
        for (int i = 0; i < 50; i++) {
            dearCalls(x);
        }
        long calls = made() - before;
        Due.is("calls make nothing: " + calls + " bytes", calls < 16384 ? 1 : 0, 1);
        Due.end();
    }

    private static long made() {
        if (ManagementFactory.getThreadMXBean() instanceof com.sun.management.ThreadMXBean threads) {
            return threads.getThreadAllocatedBytes(Thread.currentThread().getId());
        }
        return 0;
    }

    private static void dearCalls(ShoesAtLaw x) {
        for (int side = 0; side < 2; side++) {
            x.fair(3);
            x.cut(side, 1);
            x.byTurns(side, 2);
            x.lies(side, 1);
            x.sell(5);
            x.odds(5, side);
            x.saw(side, 0, 1);
            x.wrong(side);
            x.asTold();
            x.soonest(99, 1, 2);
            x.rate(3 + side, side);
            x.keep(side);
            x.gives(0, side);
            x.steps(side);
            x.undo();
            x.back(side);
            x.judge(side);
        }
        for (int i = 0; i < 9; i++) {
            x.type(' ');
        }
        x.type('g');
        x.suit();
        x.clear();
        x.type('c');
        x.type('2');
        x.type(';');
        x.suit();
        x.forget();
    }

    private static void everyNumber(ShoesAtLaw x) {
        for (int round = 0; round < 3; round++) {
            for (int a : NUMBERS) {
                for (int b : NUMBERS) {
                    twoNumbers(x, a, b);
                    for (int c : NUMBERS) {
                        x.saw(a, b, c);
                        x.soonest(a, b, c);
                    }
                }
                oneNumber(x, a);
            }
        }
        Due.is("what was typed has a fault", x.suit() < 0 ? 1 : 0, 1);
        Due.is("it still answers", x.count(6), ShoesAtLaw.BAD);
    }

    private static void twoNumbers(ShoesAtLaw x, int a, int b) {
        x.good(a, b);
        x.values(a, b);
        x.gives(a, b);
        x.cut(a, b);
        x.byTurns(a, b);
        x.lies(a, b);
        x.odds(a, b);
        x.worn(a, b);
        x.rate(a, b);
        x.steps(b);
    }

    private static void oneNumber(ShoesAtLaw x, int a) {
        x.type(a);
        x.now(a);
        x.envy(a);
        x.fair(a);
        x.sell(a);
        x.adds(a);
        x.foot(a);
        x.judge(a);
        x.wrong(a);
        x.asTold();
        x.keep(a);
        x.undo();
        x.back(a);
        x.count(a);
    }
}
