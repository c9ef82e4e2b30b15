/** Promises 31 to 35: CLOCKS, EVENTS, whether they AGREE, and their SPANS. */
public final class ClocksTest {
    private static final int UNKNOWN = CartRows.UNKNOWN, OUTSIDE = CartRows.OUTSIDE, FULL = CartRows.FULL;

    public static void main(String[] args) {
        clock();
        event();
        after();
        agree();
        clocksAreOffAlike();
        chains();
        span();
        againstAllOffsets();
        Due.end();
    }

    private static void clock() {
        CartRows x = new CartRows();
        Due.due("clock -1", x.clock(-1, 0), UNKNOWN);
        Due.due("clock 6", x.clock(6, 0), UNKNOWN);
        Due.due("clock 6, off 61", x.clock(6, 61), UNKNOWN);
        Due.due("off -1", x.clock(0, -1), OUTSIDE);
        Due.due("off 61", x.clock(0, 61), OUTSIDE);
        Due.due("off 60", x.clock(0, 60), 0);
        Due.due("that which it was", x.clock(0, 1), 60);
        Due.due("refused", x.clock(0, 61), OUTSIDE);
        Due.due("kept", x.clock(0, 0), 1);
    }

    private static void event() {
        CartRows x = new CartRows();
        Due.due("event of clock -1", x.event(-1, 0), UNKNOWN);
        Due.due("event of clock 6", x.event(6, 0), UNKNOWN);
        Due.due("unknown ahead of outside", x.event(6, 1000), UNKNOWN);
        Due.due("event -1", x.event(0, -1), OUTSIDE);
        Due.due("event 1000", x.event(0, 1000), OUTSIDE);
        for (int i = 0; i < 12; i++) {
            Due.due("event " + i, x.event(i % 6, i == 0 ? 0 : 999), i);
        }
        Due.due("full", x.event(0, 0), FULL);
        Due.due("outside ahead of full", x.event(0, 1000), OUTSIDE);
        Due.due("unknown ahead of full", x.event(6, 0), UNKNOWN);
        Due.due("twelve", x.count(4), 12);
        Due.due("the first", x.span(0, 0), 0);
        Due.due("the last", x.span(11, 1), 999);
    }

    private static void after() {
        CartRows x = new CartRows();
        x.event(0, 0);
        x.event(0, 500);
        Due.due("after itself", x.after(1, 1, 0), UNKNOWN);
        Due.due("after -1", x.after(-1, 0, 0), UNKNOWN);
        Due.due("after of 2", x.after(0, 2, 0), UNKNOWN);
        Due.due("after of 2 first", x.after(2, 0, 0), UNKNOWN);
        Due.due("unknown ahead of outside", x.after(0, 2, 100), UNKNOWN);
        Due.due("after by -1", x.after(0, 1, -1), OUTSIDE);
        Due.due("after by 100", x.after(0, 1, 100), OUTSIDE);
        for (int i = 1; i <= 12; i++) {
            Due.due("after " + i, x.after(0, 1, 99), i);
        }
        Due.due("full", x.after(1, 0, 0), FULL);
        Due.due("outside ahead of full", x.after(1, 0, 100), OUTSIDE);
        Due.due("unknown ahead of full", x.after(1, 1, 0), UNKNOWN);
        Due.due("twelve", x.count(5), 12);
        Due.due("what was refused is not told", x.agree(), 1);
    }

    private static void agree() {
        CartRows x = new CartRows();
        Due.due("nothing told agrees", x.agree(), 1);
        x.event(0, 100);
        x.event(1, 90);
        Due.due("events alone agree", x.agree(), 1);
        x.after(0, 1, 5);
        Due.due("90 is not 105", x.agree(), 0);
        x.clock(0, 7);
        x.clock(1, 7);
        Due.due("14 are too little", x.agree(), 0);
        x.clock(1, 8);
        Due.due("15 are enough", x.agree(), 1);
        x.clock(2, 60);
        x.event(2, 0);
        Due.due("another clock is nothing to it", x.agree(), 1);
    }

    private static void clocksAreOffAlike() {
        CartRows x = new CartRows();
        x.clock(0, 60);
        x.event(0, 10);
        x.event(0, 15);
        x.after(0, 1, 5);
        Due.due("5 behind", x.agree(), 1);
        x.after(0, 1, 6);
        Due.due("not 6", x.agree(), 0);
        x = new CartRows();
        x.clock(0, 60);
        x.event(0, 10);
        x.event(0, 9);
        x.after(0, 1, 0);
        Due.due("not the other way", x.agree(), 0);
    }

    private static void chains() {
        CartRows x = new CartRows();
        for (int clock = 0; clock < 6; clock++) {
            x.clock(clock, 60);
            x.event(clock, 100);
        }
        for (int event = 1; event < 6; event++) {
            x.after(event - 1, event, 24);
        }
        Due.due("120 between all", x.agree(), 1);
        for (int event = 0; event < 6; event++) {
            Due.due("all is fixed, least", x.span(event, 0), 40 + 24 * event);
            Due.due("all is fixed, greatest", x.span(event, 1), 40 + 24 * event);
        }
        x.after(5, 0, 0);
        Due.due("a ring", x.agree(), 0);
        Due.due("no span without agreeing", x.span(0, 0), Due.LEAST_INT);
        x = new CartRows();
        for (int clock = 0; clock < 4; clock++) {
            x.clock(clock, 10 * clock);
            x.event(clock, 500 - clock);
        }
        x.after(3, 2, 0);
        x.after(2, 1, 0);
        x.after(1, 0, 0);
        Due.due("by a chain, greatest", x.span(3, 1), 500);
        Due.due("by a chain, least", x.span(3, 0), 467);
        Due.due("the first is not off", x.span(0, 0), 500);
    }

    private static void span() {
        CartRows x = new CartRows();
        Due.due("span of none", x.span(0, 0), Due.LEAST_INT);
        x.clock(3, 60);
        x.event(3, 0);
        Due.due("below 0", x.span(0, 0), -60);
        Due.due("above 0", x.span(0, 1), 60);
        Due.due("span -1", x.span(-1, 0), Due.LEAST_INT);
        Due.due("span 1", x.span(1, 0), Due.LEAST_INT);
        Due.due("span what -1", x.span(0, -1), Due.LEAST_INT);
        Due.due("span what 2", x.span(0, 2), Due.LEAST_INT);
        x.event(0, 10);
        x.after(0, 1, 7);
        Due.due("3 at the latest", x.span(0, 1), 3);
        Due.due("as early as before", x.span(0, 0), -60);
        x.event(3, 50);
        Due.due("all of that clock", x.span(2, 1), 53);
        x.clock(3, 2);
        Due.due("a clock told anew", x.span(2, 1), 52);
    }

    /** Three clocks of small offs: every way in which they may be off is tried. */
    private static void againstAllOffsets() {
        java.util.Random random = new java.util.Random(5);
        for (int round = 0; round < 400; round++) {
            int[] off = {random.nextInt(5), random.nextInt(5), random.nextInt(5)};
            int events = 1 + random.nextInt(6);
            int[] clock = new int[events];
            int[] time = new int[events];
            int[][] afters = new int[events < 2 ? 0 : random.nextInt(6)][];
            CartRows x = new CartRows();
            for (int c = 0; c < 3; c++) {
                x.clock(c, off[c]);
            }
            for (int e = 0; e < events; e++) {
                clock[e] = random.nextInt(3);
                time[e] = random.nextInt(9);
                x.event(clock[e], time[e]);
            }
            for (int a = 0; a < afters.length; a++) {
                int one = random.nextInt(events);
                int two = (one + 1 + random.nextInt(events - 1)) % events;
                afters[a] = new int[] {one, two, random.nextInt(4)};
                x.after(one, two, afters[a][2]);
            }
            compare(x, off, clock, time, afters);
        }
    }

    private static void compare(CartRows x, int[] off, int[] clock, int[] time, int[][] afters) {
        int events = time.length;
        int[] least = new int[events];
        int[] most = new int[events];
        boolean agree = false;
        for (int a = -off[0]; a <= off[0]; a++) {
            for (int b = -off[1]; b <= off[1]; b++) {
                for (int c = -off[2]; c <= off[2]; c++) {
                    int[] by = {a, b, c};
                    if (!fits(by, clock, time, afters)) {
                        continue;
                    }
                    for (int e = 0; e < events; e++) {
                        int at = time[e] - by[clock[e]];
                        least[e] = agree ? Math.min(least[e], at) : at;
                        most[e] = agree ? Math.max(most[e], at) : at;
                    }
                    agree = true;
                }
            }
        }
        Due.due("agree", x.agree(), agree ? 1 : 0);
        for (int e = 0; e < events; e++) {
            Due.due("least", x.span(e, 0), agree ? least[e] : Due.LEAST_INT);
            Due.due("greatest", x.span(e, 1), agree ? most[e] : Due.LEAST_INT);
        }
    }

    private static boolean fits(int[] by, int[] clock, int[] time, int[][] afters) {
        for (int[] after : afters) {
            int one = time[after[0]] - by[clock[after[0]]];
            int two = time[after[1]] - by[clock[after[1]]];
            if (two < one + after[2]) {
                return false;
            }
        }
        return true;
    }
}
