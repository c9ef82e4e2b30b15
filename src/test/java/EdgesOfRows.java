/** Edges of THE ROW, what is set, PUSHES, LOST words, HILLS and the STRANGER: promises 7 to 13. */
final class EdgesOfRows {
    private static final int NONE = CartRows.NONE, UNKNOWN = CartRows.UNKNOWN, OUTSIDE = CartRows.OUTSIDE,
        FULL = CartRows.FULL;
    private static final int LEAST = Integer.MIN_VALUE, GREATEST = Integer.MAX_VALUE;

    private EdgesOfRows() {
    }

    static void check() {
        lorries();
        gap();
        speed();
        ticks();
        pushes();
        waits();
        lost();
        hills();
        firstPlace();
        strangerNumbers();
        strangerGap();
        strangerIsAhead();
        row();
        set();
        push();
        calm();
        lose();
        hill();
        stranger();
    }

    private static void lorries() {
        Doc.says("THE ROW has LORRIES 0 .. n - 1 (1 .. 6; one of make 0 at first), 0 the FIRST, each of a MAKE;");
        Due.due("one at first", new CartRows().count(0), 1);
        for (int n = 1; n <= 6; n++) {
            CartRows x = new CartRows();
            Due.due("row of " + n, x.row(0, n), 1);
            Due.due("lorries", x.count(0), n);
            x.push(0, -4);
            Due.due("the first is pushed", x.at(0, 0, 3), -4);
            Due.due("the last is there", x.dip(n - 1), n == 1 ? 4 : 0);
            Due.due("none behind it", x.dip(n), UNKNOWN);
            Due.due("none behind it, at", x.at(n, 0, 0), LEAST);
            Due.due("none ahead of the first", x.dip(-1), UNKNOWN);
        }
    }

    private static void gap() {
        Doc.says("a GAP (1 .. 99; 10 at first) between each two;");
        CartRows x = new CartRows();
        x.row(0, 6);
        for (int lorry = 1; lorry < 6; lorry++) {
            Due.due("10 at first", x.at(lorry, 0, 1), 10);
        }
        int was = 10;
        for (int gap : new int[] {1, 2, 98, 99}) {
            Due.due("gap " + gap, x.set(0, gap), was);
            was = gap;
            for (int lorry = 1; lorry < 6; lorry++) {
                Due.due("gap of each", x.at(lorry, 31, 1), gap);
            }
        }
        for (int gap : new int[] {0, -1, 100, LEAST, GREATEST}) {
            Due.due("gap " + gap, x.set(0, gap), OUTSIDE);
            Due.due("as it was", x.at(1, 31, 1), 99);
        }
    }

    private static void speed() {
        Doc.says("all of SPEED (0 .. 40; 20 at first).");
        CartRows x = new CartRows();
        x.row(0, 6);
        int was = 20;
        for (int speed : new int[] {20, 0, 1, 39, 40}) {
            Due.due("speed " + speed, x.set(1, speed), was);
            was = speed;
            for (int lorry = 0; lorry < 6; lorry++) {
                Due.due("speed of each", x.at(lorry, 31, 0), speed);
            }
        }
        for (int speed : new int[] {-1, 41, LEAST, GREATEST}) {
            Due.due("speed " + speed, x.set(1, speed), OUTSIDE);
            Due.due("as it was", x.at(5, 31, 0), 40);
        }
    }

    private static void ticks() {
        Doc.says("A RUN is of 32 TICKS.");
        CartRows x = new CartRows();
        Due.due("behind the first", x.at(0, 0, 2), 320);
        Due.due("behind the last", x.at(0, 31, 2), 300 + 32 * 20);
        Due.due("none behind it", x.at(0, 32, 2), LEAST);
        Due.due("none ahead of the first", x.at(0, -1, 2), LEAST);
        Due.due("the last place", x.bears(940, 940), 1);
        Due.due("none behind it", x.bears(960, 960), 0);
        x.row(0, 2);
        x.push(0, -1);
        x.set(0, 32);
        Due.due("they touch in the last", x.touch(0), 31);
        x.set(0, 33);
        Due.due("there is no tick in which they would", x.touch(0), NONE);
        Due.due("the least gap is behind the last", x.least(1), 1);
    }

    private static void pushes() {
        Doc.says("PUSHES (8 at most): in a TICK (0 .. 31) the FIRST's wish is -v or v (-9 .. 5; of several of a TICK the "
            + "last; 0 without).");
        CartRows x = new CartRows();
        x.make(0, 1, 9, 5, 0);
        Due.due("0 without", x.at(0, 0, 3), 0);
        int[] v = {-9, -8, -1, 0, 1, 4, 5, -9};
        for (int i = 0; i < 8; i++) {
            Due.due("push " + i, x.push(i == 7 ? 31 : i, v[i]), i + 1);
        }
        Due.due("a ninth", x.push(8, -1), FULL);
        for (int tick = 0; tick < 32; tick++) {
            int want = tick < 7 ? v[tick] : tick == 31 ? -9 : 0;
            Due.due("wish of tick " + tick, x.at(0, tick, 3), want);
        }
        for (int tick : new int[] {-1, 32, LEAST, GREATEST}) {
            Due.due("no tick " + tick, new CartRows().push(tick, 0), OUTSIDE);
        }
        for (int wish : new int[] {-10, 6, LEAST, GREATEST}) {
            Due.due("no push " + wish, new CartRows().push(0, wish), OUTSIDE);
        }
        x = new CartRows();
        x.push(3, -4);
        x.push(3, 2);
        x.push(4, 1);
        Due.due("of several the last, not the strongest", x.at(0, 3, 3), 2);
        x.push(3, 0);
        Due.due("even if it is 0", x.at(0, 3, 3), 0);
        x.push(3, -1);
        Due.due("and one more", x.at(0, 3, 3), -1);
        Due.due("the other tick's stays", x.at(0, 4, 3), 1);
        Due.due("those that do not count are there too", x.count(1), 5);
    }

    private static void waits() {
        Doc.says("WAIT is 0 .. 4 (1 at first).");
        CartRows x = new CartRows();
        x.row(0, 2);
        Due.due("1 at first", x.at(1, 9, 5), 1);
        int was = 1;
        for (int wait = 0; wait <= 4; wait++) {
            Due.due("wait " + wait, x.set(2, wait), was);
            was = wait;
            Due.due("old by it", x.at(1, 9, 5), Math.max(1, wait));
        }
        for (int wait : new int[] {-1, 5, LEAST, GREATEST}) {
            Due.due("wait " + wait, x.set(2, wait), OUTSIDE);
            Due.due("as it was", x.at(1, 9, 5), 4);
        }
    }

    private static void lost() {
        Doc.says("LOST are TICKS of words (bits 0 .. 31; none at first).");
        CartRows x = new CartRows();
        x.row(0, 2);
        for (int tick = 1; tick < 32; tick++) {
            Due.due("none at first", x.at(1, tick, 5), 1);
        }
        for (int tick : new int[] {0, 1, 15, 30}) {
            x.lose(1 << tick);
            Due.due("word of tick " + tick, x.at(1, tick + 1, 5), tick == 0 ? 99 : 2);
            Due.due("the word before it", tick == 0 ? 1 : x.at(1, tick, 5), 1);
            Due.due("the word behind it", tick == 30 ? 1 : x.at(1, tick + 2, 5), 1);
        }
        x.lose(1 << 31);
        for (int tick = 1; tick < 32; tick++) {
            Due.due("that of tick 31 would be heard in none", x.at(1, tick, 5), 1);
        }
        x.lose(~1);
        Due.due("all but the first", x.at(1, 31, 5), 31);
        x.lose(-1);
        Due.due("all", x.at(1, 31, 5), 99);
    }

    private static void hills() {
        Doc.says("HILLS (2 at most) from a place to a place (0 .. 2000, with both): LORRIES whose WEIGHT is above so much "
            + "(0 .. 40), that are there when the TICK begins, go SLOPE (0 .. 40) at most.");
        Due.due("ahead of it", behindTickOneOn(321, 340, 0, 5), 20);
        Due.due("at its first place", behindTickOneOn(320, 340, 0, 5), 5);
        Due.due("at its last place", behindTickOneOn(301, 320, 0, 5), 5);
        Due.due("behind it", behindTickOneOn(301, 319, 0, 5), 20);
        Due.due("of one place", behindTickOneOn(320, 320, 0, 5), 5);
        Due.due("of all places", behindTickOneOn(0, 2000, 0, 5), 5);
        Due.due("far off", behindTickOneOn(2000, 2000, 0, 5), 20);
        Due.due("weight 7 is above 6", behindTickOneOn(320, 320, 6, 5), 5);
        Due.due("weight 7 is not above 7", behindTickOneOn(320, 320, 7, 5), 20);
        Due.due("nothing is above 40", behindTickOneOn(320, 320, 40, 5), 20);
        Due.due("slope 0", behindTickOneOn(320, 320, 0, 0), 0);
        Due.due("slope 19", behindTickOneOn(320, 320, 0, 19), 19);
        Due.due("slope 20", behindTickOneOn(320, 320, 0, 20), 20);
        Due.due("slope 40", behindTickOneOn(320, 320, 0, 40), 20);
        Due.due("where it comes in the tick, not where it was", behindTickOneOn(330, 345, 0, 5), 20);
        CartRows x = new CartRows();
        x.row(0, 6);
        x.set(0, 60);
        x.set(1, 1);
        x.hill(0, 0, 0, 0);
        Due.due("place 0", x.at(5, 31, 2), 0);
        Due.due("no other is there", x.at(4, 31, 2), 60 + 32);
        x.set(0, 61);
        Due.due("places below 0 are ahead of it till it comes", x.at(5, 4, 2), 0);
        Due.due("then it stands", x.at(5, 31, 2), 0);
        x.make(0, 40, 4, 2, 0);
        Due.due("the second", x.hill(0, 2000, 39, 0), 2);
        Due.due("the greatest weight is above 39", x.at(0, 31, 2), 300);
        Due.due("a third", x.hill(0, 0, 0, 0), FULL);
        x.make(0, 39, 4, 2, 0);
        Due.due("39 is not", x.at(0, 31, 2), 332);
    }

    /** The speed behind tick 1 of one lorry of weight 7 that is at 320 as tick 1 begins; speed 20 without a hill. */
    private static int behindTickOneOn(int from, int to, int weight, int slope) {
        CartRows x = new CartRows();
        x.make(0, 7, 4, 2, 0);
        Due.due("hill", x.hill(from, to, weight, slope), 1);
        if (from > 300) {
            Due.due("behind tick 0", x.at(0, 0, 0), 20);
        }
        return x.at(0, 1, 0);
    }

    private static void firstPlace() {
        Doc.says("The FIRST is at place 300 at first, each other one so much behind as gaps tell.");
        for (int gap : new int[] {1, 10, 60, 99}) {
            CartRows x = new CartRows();
            x.row(0, 6);
            x.set(0, gap);
            x.set(1, 0);
            for (int lorry = 0; lorry < 6; lorry++) {
                Due.due("place of " + lorry + " by " + gap, x.at(lorry, 0, 2), 300 - lorry * gap);
            }
        }
    }

    private static void strangerNumbers() {
        Doc.says("A STRANGER (one at most): in TICKS from .. to (0 .. 31) it goes at a speed (0 .. 40) ahead of a LORRY "
            + "(1 ..):");
        String table = "slow 1 when closing above 0;fast 1 when opening above 0 and opening below 40";
        for (int[] ticks : new int[][] {{0, 0}, {0, 31}, {31, 31}, {5, 9}}) {
            for (int lorry : new int[] {1, 5}) {
                CartRows x = Due.followers(6, table);
                x.set(0, 99);
                x.set(1, 30);
                Due.due("stranger", x.stranger(lorry, ticks[0], ticks[1], 29), 1);
                Due.due("ahead of it", ticks[0] == 0 ? 0 : x.at(lorry, ticks[0] - 1, 3), 0);
                Due.due("as it comes", x.at(lorry, ticks[0], 3), -1);
                Due.due("its speed is 29", x.at(lorry, ticks[0], 0), 29);
                Due.due("as it goes", x.at(lorry, ticks[1], 3), ticks[0] == ticks[1] ? -1 : 0);
                Due.due("behind that", ticks[1] == 31 ? 1 : x.at(lorry, ticks[1] + 1, 3), 1);
                Due.due("no other one sees it", x.at(lorry == 1 ? 5 : 1, ticks[0], 3), 0);
            }
        }
        CartRows x = Due.followers(2, table);
        x.set(0, 99);
        x.set(1, 1);
        x.stranger(1, 0, 0, 0);
        Due.due("speed 0", x.at(1, 0, 3), -1);
        x.set(1, 0);
        Due.due("speed 0 by 0", x.at(1, 0, 3), 0);
        x.stranger(1, 0, 0, 40);
        Due.due("speed 40, 40 more than its own", x.at(1, 0, 3), 0);
        x.set(1, 1);
        Due.due("speed 40, 39 more", x.at(1, 0, 3), 1);
        x.set(1, 20);
        x.stranger(1, 0, 3, 10);
        x.stranger(1, 2, 3, 10);
        Due.due("one at most: the first is gone", x.at(1, 0, 3), 0);
        Due.due("the second is there", x.at(1, 2, 3), -1);
        Due.due("none touch", x.touch(0), NONE);
    }

    private static void strangerGap() {
        Doc.says("its gap when it comes (as TICK from begins) is half the LORRY's gap then, cut (towards 0), and then as "
            + "both go;");
        for (int gap : new int[] {1, 2, 3, 10, 11, 98, 99}) {
            int half = gap / 2;
            Due.due("it reads half of " + gap, wishAhead(gap, "gap above " + Math.max(0, half - 1)), half > 0 ? 1 : 0);
            Due.due("and no more", wishAhead(gap, "gap above " + half), 0);
            Due.due("and no less", wishAhead(gap, "gap below " + (half + 1)), 1);
        }
        // behind its gap of the begin comes what both go: 5, 5 + 1, 5 + 2
        CartRows x = Due.followers(2, "fast 1 when gap above 6 and gap below 9");
        x.stranger(1, 0, 4, 21);
        Due.due("5", x.at(1, 0, 3), 0);
        Due.due("6", x.at(1, 1, 3), 0);
        Due.due("7", x.at(1, 2, 3), 1);
        Due.due("7 as both are of speed 21", x.at(1, 3, 3), 1);
        Due.due("6 as it is of speed 22", x.at(1, 4, 3), 0);
        // the gap as that tick begins, not that at first: 10, 8, 6, of which half
        x = Due.followers(2, "fast 1 when gap above 2 and gap below 4");
        x.push(0, -2);
        x.stranger(1, 2, 2, 20);
        Due.due("half of 6", x.at(1, 2, 3), 1);
        // a gap of -1 is cut to 0: behind the tick it is 0 and 2 more
        x = Due.followers(2, "fast 1 when gap above 1 and gap below 3");
        x.set(0, 1);
        x.push(0, -2);
        x.push(1, 2);
        x.stranger(1, 1, 2, 22);
        Due.due("-1", x.at(1, 0, 1), -1);
        Due.due("0, and 2", x.at(1, 2, 3), 1);
        asBothGo();
    }

    /** The gap to it goes by its speed and that of its own lorry: the lorries ahead and behind are of other speeds. */
    private static void asBothGo() {
        CartRows x = Due.followers(3, "fast 1 when gap below 6 and gap above 4;slow 3 when gap below 5 and gap above 3");
        x.row(0b10_01_00, 3);
        Due.tell(x, 2, "fast 2");
        x.push(0, -4);
        x.stranger(1, 0, 3, 20);
        // 5, then 1 less, then 2 more, and 2 more
        int[] wishes = {1, -3, 0, 0};
        int[] speeds = {21, 18, 18, 18};
        for (int tick = 0; tick < 4; tick++) {
            Due.due("wish by the gap to it in tick " + tick, x.at(1, tick, 3), wishes[tick]);
            Due.due("its lorry's speed", x.at(1, tick, 0), speeds[tick]);
        }
    }

    private static int wishAhead(int gap, String test) {
        CartRows x = Due.followers(2, "fast 1 when " + test);
        x.set(0, gap);
        x.stranger(1, 0, 0, 20);
        return x.at(1, 0, 3);
    }

    private static void strangerIsAhead() {
        Doc.says("while it is there it is what is ahead of that LORRY; gaps to LORRIES go on as they are.");
        CartRows x = Due.followers(3, "slow 1 when gap below 6");
        x.stranger(1, 2, 2, 40);
        Due.due("not yet", x.at(1, 1, 3), 0);
        Due.due("there", x.at(1, 2, 3), -1);
        Due.due("gone", x.at(1, 3, 3), 0);
        Due.due("not ahead of the other", x.at(2, 2, 3), 0);
        Due.due("the gap to the lorry", x.at(1, 1, 1), 10);
        Due.due("goes on by speeds of lorries", x.at(1, 2, 1), 11);
        Due.due("that of the next too", x.at(2, 2, 1), 9);
        Due.due("least is of lorries", x.least(1), 10);
        x = new CartRows();
        x.row(0, 2);
        x.stranger(1, 0, 31, 0);
        Due.due("it is driven through", x.touch(0), 0);
        Due.due("the lorry goes on", x.at(1, 31, 2), 290 + 32 * 20);
        Due.due("its gap is as it was", x.least(1), 10);
    }

    private static void row() {
        Doc.says("THE ROW becomes n LORRIES, MAKE of LORRY i row >> 2 i & 3: 1. OUTSIDE.");
        CartRows x = new CartRows();
        int[] weights = {1, 5, 13, 40};
        for (int make = 0; make < 4; make++) {
            x.make(make, weights[make], 1, 1, 0);
        }
        for (int lorry = 0; lorry < 6; lorry++) {
            for (int make = 0; make < 4; make++) {
                Due.due("row", x.row(make << 2 * lorry, 6), 1);
                int place = 320 - 10 * lorry;
                Due.due("make of " + lorry, x.bears(0, 2000), 5 + weights[make]);
                Due.due("where it is", x.bears(place, place), weights[make]);
            }
        }
        Due.due("the greatest row", x.row(4095, 6), 1);
        Due.due("all of make 3", x.bears(0, 2000), 240);
        Due.due("bits above are nothing", x.row(4096, 6), 1);
        Due.due("all of make 0", x.bears(0, 2000), 6);
        Due.due("below 0", x.row(-1, 6), 1);
        Due.due("all of make 3", x.bears(0, 2000), 240);
        Due.due("the least int", x.row(LEAST, 6), 1);
        Due.due("all of make 0", x.bears(0, 2000), 6);
        Due.due("bits above n are nothing", x.row(-1 << 4, 2), 1);
        Due.due("two of make 0", x.bears(0, 2000), 2);
        x.row(0b1101, 2);
        for (int n : new int[] {0, -1, 7, LEAST, GREATEST}) {
            Due.due("row of " + n, x.row(-1, n), OUTSIDE);
            Due.due("as many", x.count(0), 2);
            Due.due("the same makes", x.bears(0, 2000), 45);
        }
        Due.due("fewer", x.row(2, 1), 1);
        Due.due("one", x.bears(0, 2000), 13);
        Due.due("more again are all told anew", x.row(0, 3), 1);
        Due.due("of make 0", x.bears(0, 2000), 3);
    }

    private static void set() {
        Doc.says("GAP (what 0), SPEED (1), WAIT (2), SPARE (3), LATE (4): that which it was. OUTSIDE.");
        int[] first = {10, 20, 1, 2, 1};
        int[] least = {1, 0, 0, 0, 0};
        int[] most = {99, 40, 4, 9, 9};
        for (int what = 0; what < 5; what++) {
            CartRows x = new CartRows();
            Due.due("at first, " + what, x.set(what, least[what]), first[what]);
            for (int v : new int[] {least[what] - 1, most[what] + 1, LEAST, GREATEST}) {
                Due.due("set " + what + " to " + v, x.set(what, v), OUTSIDE);
            }
            Due.due("the least was kept", x.set(what, most[what]), least[what]);
            for (int v : new int[] {least[what] - 1, most[what] + 1, LEAST, GREATEST}) {
                Due.due("set " + what + " to " + v, x.set(what, v), OUTSIDE);
            }
            Due.due("the most was kept", x.set(what, most[what]), most[what]);
            for (int other = 0; other < 5; other++) {
                Due.due("others are as they were", x.set(other, least[other]), other == what ? most[what] : first[other]);
            }
        }
        CartRows x = new CartRows();
        for (int what : new int[] {-1, 5, LEAST, GREATEST}) {
            Due.due("set " + what, x.set(what, 1), OUTSIDE);
        }
        for (int what = 0; what < 5; what++) {
            Due.due("nothing changed", x.set(what, 1), first[what]);
        }
    }

    private static void push() {
        Doc.says("A PUSH of the FIRST in a TICK: how many. OUTSIDE; FULL.");
        CartRows x = new CartRows();
        x.row(0, 2);
        x.make(0, 1, 9, 5, 0);
        Due.due("one", x.push(0, -9), 1);
        Due.due("refused by tick", x.push(32, -1), OUTSIDE);
        Due.due("refused by v", x.push(0, 6), OUTSIDE);
        Due.due("one still", x.count(1), 1);
        Due.due("as it was", x.at(0, 0, 3), -9);
        for (int i = 2; i <= 8; i++) {
            Due.due("how many", x.push(i, -i), i);
        }
        Due.due("full", x.push(0, 5), FULL);
        Due.due("full for another tick", x.push(20, 5), FULL);
        Due.due("outside ahead of full, tick", x.push(-1, 5), OUTSIDE);
        Due.due("outside ahead of full, v", x.push(0, -10), OUTSIDE);
        Due.due("eight", x.count(1), 8);
        Due.due("the first is as it was", x.at(0, 0, 3), -9);
        Due.due("the eighth is there", x.at(0, 8, 3), -8);
        Due.due("no ninth", x.at(0, 20, 3), 0);
        Due.due("others are not pushed", x.at(1, 0, 3), 0);
    }

    private static void calm() {
        Doc.says("There are no PUSHES any more: how many there were.");
        CartRows x = new CartRows();
        Due.due("none", x.calm(), 0);
        for (int i = 0; i < 8; i++) {
            x.push(i, -4);
        }
        Due.due("the most", x.calm(), 8);
        Due.due("none any more", x.calm(), 0);
        Due.due("count", x.count(1), 0);
        for (int tick = 0; tick < 8; tick++) {
            Due.due("no wish", x.at(0, tick, 3), 0);
        }
        Due.due("room again", x.push(7, 1), 1);
        Due.due("that alone", x.at(0, 7, 0), 21);
        for (int i = 2; i <= 8; i++) {
            Due.due("room for eight", x.push(0, 0), i);
        }
        Due.due("and no more", x.push(0, 0), FULL);
    }

    private static void lose() {
        Doc.says("LOST become these (any bits): 1.");
        CartRows x = new CartRows();
        x.row(0, 2);
        for (int ticks : new int[] {0, 1, -1, LEAST, GREATEST, 0x55555555}) {
            Due.due("lose", x.lose(ticks), 1);
            for (int tick = 1; tick < 32; tick++) {
                int said = tick - 1;
                while (said >= 0 && (ticks >> said & 1) == 1) {
                    said--;
                }
                Due.due("old by " + ticks + " in " + tick, x.at(1, tick, 5), said < 0 ? 99 : tick - said);
            }
        }
    }

    private static void hill() {
        Doc.says("A HILL: how many. OUTSIDE: also to less than from; FULL.");
        int[][] outside = {{-1, 5, 0, 5}, {2001, 2001, 0, 5}, {0, -1, 0, 5}, {0, 2001, 0, 5}, {301, 300, 0, 5},
            {1, 0, 0, 5}, {2000, 1999, 0, 5}, {0, 2000, -1, 5}, {0, 2000, 41, 5}, {0, 2000, 0, -1}, {0, 2000, 0, 41},
            {LEAST, 2000, 0, 5}, {0, GREATEST, 0, 5}, {0, 2000, LEAST, 5}, {0, 2000, 0, GREATEST}};
        CartRows x = new CartRows();
        for (int[] o : outside) {
            Due.due("hill " + java.util.Arrays.toString(o), x.hill(o[0], o[1], o[2], o[3]), OUTSIDE);
            Due.due("none", x.count(2), 0);
            Due.due("none holds", x.at(0, 31, 2), 940);
        }
        Due.due("the least", x.hill(0, 0, 0, 0), 1);
        Due.due("the greatest", x.hill(2000, 2000, 40, 40), 2);
        Due.due("one too many", x.hill(0, 2000, 0, 0), FULL);
        for (int[] o : outside) {
            Due.due("outside ahead of full", x.hill(o[0], o[1], o[2], o[3]), OUTSIDE);
        }
        Due.due("two", x.count(2), 2);
        Due.due("no third holds", x.at(0, 31, 2), 940);
        twoHillsStay();
    }

    /** Both go on as told when there is no room for another one: speed 15 from place 340, 11 from place 500. */
    private static void twoHillsStay() {
        for (int[] third : new int[][] {{0, 2000, 0, 5}, {340, 400, 0, 40}, {500, 600, 40, 11}, {2000, 2000, 0, 11}}) {
            CartRows x = new CartRows();
            x.make(0, 7, 4, 2, 0);
            x.hill(340, 400, 6, 15);
            x.hill(500, 600, 6, 11);
            Due.due("a third", x.hill(third[0], third[1], third[2], third[3]), FULL);
            Due.due("ahead of the first", x.at(0, 1, 0), 20);
            Due.due("on the first", x.at(0, 2, 0), 15);
            Due.due("at its last place", x.bears(400, 400), 7);
            Due.due("ahead of the second", x.at(0, 12, 2), 505);
            Due.due("on the second", x.at(0, 13, 0), 11);
            Due.due("as far as both let it", x.at(0, 31, 2), 505 + 19 * 11);
            Due.due("two", x.count(2), 2);
        }
    }

    private static void stranger() {
        Doc.says("The STRANGER: 1. UNKNOWN: no such LORRY, or the FIRST; OUTSIDE: also to less than from.");
        for (int n = 1; n <= 6; n++) {
            CartRows x = new CartRows();
            x.row(0, n);
            for (int lorry : new int[] {-1, 0, n, LEAST, GREATEST}) {
                Due.due("stranger ahead of " + lorry + " of " + n, x.stranger(lorry, 0, 31, 0), UNKNOWN);
                Due.due("unknown ahead of outside", x.stranger(lorry, 32, -1, 41), UNKNOWN);
            }
            Due.due("none came", x.touch(0), NONE);
            Due.due("the last lorry", x.stranger(n - 1, 0, 31, 0), n == 1 ? UNKNOWN : 1);
            Due.due("it comes upon it", x.touch(1), n == 1 ? NONE : n - 1);
        }
        CartRows x = new CartRows();
        x.row(0, 2);
        x.stranger(1, 7, 9, 0);
        int[][] outside = {{-1, 5, 0}, {32, 32, 0}, {0, -1, 0}, {0, 32, 0}, {5, 4, 0}, {1, 0, 0}, {31, 30, 0}, {0, 31, -1},
            {0, 31, 41}, {LEAST, 5, 0}, {0, GREATEST, 0}, {0, 31, LEAST}, {0, 31, GREATEST}, {GREATEST, LEAST, 0}};
        for (int[] o : outside) {
            Due.due("stranger " + java.util.Arrays.toString(o), x.stranger(1, o[0], o[1], o[2]), OUTSIDE);
            Due.due("the one told is there still", x.touch(0), 7);
        }
        Doc.says("(It lasts till another one; while there is no such LORRY, it is not there.)");
        x = new CartRows();
        x.row(0, 6);
        x.stranger(5, 3, 31, 0);
        Due.due("there", x.touch(0), 3);
        x.calm();
        x.set(1, 21);
        x.lose(-1);
        Due.due("it lasts", x.touch(0), 3);
        for (int n = 1; n <= 5; n++) {
            x.row(0, n);
            Due.due("no lorry 5 of " + n, x.touch(0), NONE);
        }
        x.row(0, 6);
        Due.due("there again", x.touch(0), 3);
        Due.due("ahead of 5", x.touch(1), 5);
        Due.due("another one", x.stranger(2, 4, 31, 0), 1);
        Due.due("comes later", x.touch(0), 4);
        Due.due("ahead of 2", x.touch(1), 2);
        x.stranger(1, 31, 31, 40);
        Due.due("one that none come upon", x.touch(0), NONE);
    }
}
