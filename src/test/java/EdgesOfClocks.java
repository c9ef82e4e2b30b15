/** Edges of CLOCKS, EVENTS and their SPANS: promises 31 to 35. */
final class EdgesOfClocks {
    private static final int UNKNOWN = CartRows.UNKNOWN, OUTSIDE = CartRows.OUTSIDE, FULL = CartRows.FULL;
    private static final int LEAST = Integer.MIN_VALUE, GREATEST = Integer.MAX_VALUE;

    private EdgesOfClocks() {
    }

    static void check() {
        clocksAreOff();
        events();
        afters();
        agreeOf();
        spanOf();
        clock();
        event();
        after();
        agree();
        span();
    }

    private static void spanIs(CartRows x, int event, int least, int greatest) {
        Due.due("event " + event + " at the earliest", x.span(event, 0), least);
        Due.due("event " + event + " at the latest", x.span(event, 1), greatest);
    }

    private static void clocksAreOff() {
        Doc.says("CLOCKS 0 .. 5: each is off by at most so much (0 .. 60; 0 at first), always alike.");
        for (int clock = 0; clock < 6; clock++) {
            CartRows x = new CartRows();
            x.event(clock, 500);
            spanIs(x, 0, 500, 500);
            for (int off : new int[] {1, 59, 60, 0}) {
                x.clock(clock, off);
                spanIs(x, 0, 500 - off, 500 + off);
            }
        }
        CartRows x = new CartRows();
        x.clock(0, 60);
        x.event(0, 100);
        x.event(0, 110);
        x.after(0, 1, 10);
        Due.due("alike: 10 apart are 10 apart", x.agree(), 1);
        spanIs(x, 0, 40, 160);
        x.after(0, 1, 11);
        Due.due("and not 11", x.agree(), 0);
        x = new CartRows();
        x.clock(0, 60);
        x.event(0, 100);
        x.event(0, 99);
        x.after(0, 1, 0);
        Due.due("nor the other way round", x.agree(), 0);
        // what narrows a clock by one event narrows all of its events
        x = new CartRows();
        x.clock(0, 60);
        x.event(0, 100);
        x.event(0, 900);
        x.event(1, 105);
        x.after(0, 2, 0);
        spanIs(x, 0, 40, 105);
        spanIs(x, 1, 840, 905);
        spanIs(x, 2, 105, 105);
    }

    private static void events() {
        Doc.says("EVENTS (12 at most) were told by a CLOCK at a time (0 .. 999);");
        CartRows x = new CartRows();
        x.clock(5, 60);
        int[] times = {0, 1, 998, 999};
        for (int i = 0; i < 12; i++) {
            Due.due("event", x.event(i % 6, times[i % 4]), i);
        }
        Due.due("a thirteenth", x.event(0, 500), FULL);
        for (int i = 0; i < 12; i++) {
            int off = i % 6 == 5 ? 60 : 0;
            spanIs(x, i, times[i % 4] - off, times[i % 4] + off);
        }
        for (int time : new int[] {-1, 1000, LEAST, GREATEST}) {
            CartRows y = new CartRows();
            Due.due("event at " + time, y.event(0, time), OUTSIDE);
            Due.due("none", y.count(4), 0);
        }
    }

    private static void afters() {
        Doc.says("of two EVENTS the second was at least so much (0 .. 99) behind the first (AFTER; 12 such at most).");
        for (int v : new int[] {0, 1, 98, 99}) {
            CartRows x = new CartRows();
            x.event(0, 100);
            x.event(1, 100 + v);
            Due.due("after by " + v, x.after(0, 1, v), 1);
            Due.due("at least so much", x.agree(), 1);
            x = new CartRows();
            x.event(0, 101);
            x.event(1, 100 + v);
            x.after(0, 1, v);
            Due.due("one too little", x.agree(), 0);
            x = new CartRows();
            x.event(0, 99);
            x.event(1, 100 + v);
            x.after(0, 1, v);
            Due.due("more is fine", x.agree(), 1);
        }
        CartRows x = new CartRows();
        for (int i = 0; i < 12; i++) {
            x.event(0, i);
        }
        for (int i = 1; i <= 11; i++) {
            Due.due("after", x.after(i - 1, i, 1), i);
        }
        Due.due("the twelfth", x.after(0, 11, 11), 12);
        Due.due("a thirteenth", x.after(0, 11, 12), FULL);
        Due.due("it does not count", x.agree(), 1);
    }

    private static void agreeOf() {
        Doc.says("They AGREE, if CLOCKS may be off so that all is so.");
        CartRows x = new CartRows();
        x.event(0, 100);
        x.event(1, 90);
        x.after(0, 1, 5);
        for (int[] offs : new int[][] {{0, 0, 0}, {14, 0, 0}, {15, 0, 1}, {0, 14, 0}, {0, 15, 1}, {7, 7, 0}, {7, 8, 1},
            {60, 60, 1}}) {
            x.clock(0, offs[0]);
            x.clock(1, offs[1]);
            Due.due("off by " + offs[0] + " and " + offs[1], x.agree(), offs[2]);
        }
        x.clock(2, 0);
        x.clock(0, 15);
        x.clock(1, 0);
        x.event(2, 85);
        x.after(2, 0, 0);
        Due.due("85 it is", x.agree(), 1);
        x.after(2, 0, 1);
        Due.due("by a way through three", x.agree(), 0);
        // one clock can't be off both ways
        x = new CartRows();
        x.clock(0, 60);
        x.event(0, 100);
        x.event(1, 110);
        x.event(1, 90);
        x.after(1, 0, 0);
        Due.due("110 at least", x.agree(), 1);
        x.after(0, 2, 0);
        Due.due("and 90 at most", x.agree(), 0);
        // a ring of two events, with nothing between them
        x = new CartRows();
        x.clock(0, 60);
        x.clock(1, 60);
        x.event(0, 0);
        x.event(1, 120);
        x.after(0, 1, 0);
        x.after(1, 0, 0);
        Due.due("the same time", x.agree(), 1);
        spanIs(x, 0, 60, 60);
        spanIs(x, 1, 60, 60);
        x.after(0, 1, 1);
        Due.due("not the same time", x.agree(), 0);
    }

    private static void spanOf() {
        Doc.says("SPAN of an EVENT: the least and the greatest true time that it can have.");
        CartRows x = new CartRows();
        x.clock(0, 60);
        x.event(0, 0);
        spanIs(x, 0, -60, 60);
        x.event(0, 999);
        spanIs(x, 1, 939, 1059);
        // a chain of all clocks, each 60 off, each 24 behind the one ahead: 120 in all, which leaves one way
        x = new CartRows();
        for (int clock = 0; clock < 6; clock++) {
            x.clock(clock, 60);
            x.event(clock, 500);
        }
        for (int event = 1; event < 6; event++) {
            x.after(event - 1, event, 24);
        }
        for (int event = 0; event < 6; event++) {
            spanIs(x, event, 440 + 24 * event, 440 + 24 * event);
        }
        x = new CartRows();
        for (int clock = 0; clock < 6; clock++) {
            x.clock(clock, 60);
            x.event(clock, 500);
        }
        for (int event = 1; event < 6; event++) {
            x.after(event - 1, event, 20);
        }
        for (int event = 0; event < 6; event++) {
            spanIs(x, event, 440 + 20 * event, 460 + 20 * event);
        }
    }

    private static void clock() {
        Doc.says("How much a CLOCK may be off: that which it was. UNKNOWN; OUTSIDE.");
        CartRows x = new CartRows();
        for (int clock = 0; clock < 6; clock++) {
            Due.due("0 at first", x.clock(clock, 10 + clock), 0);
        }
        for (int clock : new int[] {-1, 6, LEAST, GREATEST}) {
            Due.due("clock " + clock, x.clock(clock, 5), UNKNOWN);
            Due.due("unknown ahead of outside", x.clock(clock, 61), UNKNOWN);
        }
        for (int off : new int[] {-1, 61, LEAST, GREATEST}) {
            Due.due("off " + off, x.clock(5, off), OUTSIDE);
        }
        for (int clock = 0; clock < 6; clock++) {
            Due.due("that which it was", x.clock(clock, 60), 10 + clock);
            Due.due("60", x.clock(clock, 0), 60);
            Due.due("0", x.clock(clock, 0), 0);
        }
    }

    private static void event() {
        Doc.says("An EVENT: its number. UNKNOWN; OUTSIDE; FULL.");
        CartRows x = new CartRows();
        for (int number = 0; number <= 12; number++) {
            for (int clock : new int[] {-1, 6, LEAST, GREATEST}) {
                Due.due("event of clock " + clock, x.event(clock, 5), UNKNOWN);
                Due.due("unknown ahead of outside", x.event(clock, 1000), UNKNOWN);
            }
            for (int time : new int[] {-1, 1000, LEAST, GREATEST}) {
                Due.due("event at " + time, x.event(0, time), OUTSIDE);
            }
            Due.due("as many", x.count(4), number);
            Due.due("none of that number", x.span(number, 0), LEAST);
            Due.due("its number", x.event(number % 6, 10 * number), number < 12 ? number : FULL);
        }
        for (int number = 0; number < 12; number++) {
            spanIs(x, number, 10 * number, 10 * number);
        }
        Due.due("none behind them", x.span(12, 0), LEAST);
    }

    private static void after() {
        Doc.says("Of two EVENTS the second is at least v behind the first: how many such. UNKNOWN: also one and itself; "
            + "OUTSIDE; FULL.");
        CartRows x = new CartRows();
        Due.due("no events", x.after(0, 1, 0), UNKNOWN);
        x.event(0, 10);
        Due.due("one event", x.after(0, 1, 0), UNKNOWN);
        Due.due("one and itself", x.after(0, 0, 0), UNKNOWN);
        x.event(0, 20);
        for (int many = 0; many <= 12; many++) {
            for (int nothing : new int[] {-1, 2, LEAST, GREATEST}) {
                Due.due("behind " + nothing, x.after(nothing, 1, 5), UNKNOWN);
                Due.due(nothing + " behind", x.after(0, nothing, 5), UNKNOWN);
                Due.due("unknown ahead of outside", x.after(0, nothing, 100), UNKNOWN);
            }
            Due.due("itself", x.after(1, 1, 0), UNKNOWN);
            Due.due("itself, outside too", x.after(1, 1, -1), UNKNOWN);
            for (int v : new int[] {-1, 100, LEAST, GREATEST}) {
                Due.due("by " + v, x.after(1, 0, v), OUTSIDE);
            }
            Due.due("as many", x.count(5), many);
            Due.due("they agree", x.agree(), 1);
            Due.due("how many", x.after(0, 1, many % 11), many < 12 ? many + 1 : FULL);
        }
        Due.due("full for others too", x.after(1, 0, 99), FULL);
        Due.due("they agree", x.agree(), 1);
    }

    private static void agree() {
        Doc.says("Whether they AGREE: 1, 0.");
        CartRows x = new CartRows();
        Due.due("nothing told", x.agree(), 1);
        x.clock(0, 60);
        Due.due("a clock alone", x.agree(), 1);
        x.event(0, 0);
        x.event(1, 999);
        Due.due("events alone", x.agree(), 1);
        x.after(1, 0, 0);
        Due.due("999 and 60", x.agree(), 0);
        Due.due("asked again", x.agree(), 0);
        Due.due("more events do not help", x.event(0, 999), 2);
        Due.due("it stays", x.agree(), 0);
    }

    private static void span() {
        Doc.says("SPAN of an EVENT: the least (what 0), the greatest (1). The least int: UNKNOWN, OUTSIDE, or they do not "
            + "AGREE.");
        CartRows x = new CartRows();
        Due.due("no events", x.span(0, 0), LEAST);
        x.clock(0, 3);
        x.event(0, 10);
        x.event(1, 20);
        spanIs(x, 0, 7, 13);
        spanIs(x, 1, 20, 20);
        for (int event : new int[] {-1, 2, 12, LEAST, GREATEST}) {
            Due.due("span of " + event, x.span(event, 0), LEAST);
            Due.due("span of " + event, x.span(event, 1), LEAST);
            Due.due("span of " + event, x.span(event, 2), LEAST);
        }
        for (int what : new int[] {-1, 2, LEAST, GREATEST}) {
            Due.due("span, " + what, x.span(0, what), LEAST);
        }
        x.after(0, 1, 13);
        spanIs(x, 0, 7, 7);
        x.after(1, 0, 0);
        Due.due("they do not agree", x.agree(), 0);
        spanIs(x, 0, LEAST, LEAST);
        spanIs(x, 1, LEAST, LEAST);
        Due.due("nor is an event of another clock", x.event(5, 500), 2);
        spanIs(x, 2, LEAST, LEAST);
    }
}
