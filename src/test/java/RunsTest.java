/** Promises 14 to 23: RUNS, and what is asked of them. */
public final class RunsTest {
    private static final int NONE = CartRows.NONE, UNKNOWN = CartRows.UNKNOWN, OUTSIDE = CartRows.OUTSIDE;

    public static void main(String[] args) {
        atRefusals();
        atPlain();
        speedsAreBounded();
        feetAnswerLate();
        wordsComeLate();
        wordsAreLost();
        allByWhatWas();
        hills();
        strangers();
        strangerGapIsCutTowardsZero();
        strangerIsWhatIsAhead();
        touch();
        least();
        dipAndGrows();
        safeNeedWorst();
        needIsTheLeastSafe();
        worstIsFirst();
        sparing();
        bears();
        Due.end();
    }

    private static void atRefusals() {
        CartRows x = new CartRows();
        x.row(0, 2);
        int[][] wrong = {{-1, 0, 0}, {2, 0, 0}, {0, -1, 0}, {0, 32, 0}, {0, 0, -1}, {0, 0, 6}, {6, 40, 9},
            {Integer.MAX_VALUE, 0, 0}, {0, Integer.MAX_VALUE, 0}, {0, 0, Integer.MIN_VALUE}};
        for (int[] w : wrong) {
            Due.due("at " + java.util.Arrays.toString(w), x.at(w[0], w[1], w[2]), Due.LEAST_INT);
        }
    }

    private static void atPlain() {
        CartRows x = Due.followers(3, "slow 1");
        x.push(1, 1);
        int[][] rows = {
            {0, 0, 20, NONE, 320, 0, 0, 99}, {1, 0, 19, 11, 309, -1, 0, 99}, {2, 0, 19, 10, 299, -1, 0, 99},
            {0, 1, 21, NONE, 341, 1, 0, 99}, {1, 1, 18, 14, 327, -1, 0, 1}, {2, 1, 18, 10, 317, -1, 0, 1},
            {1, 31, 0, 491, 480, -1, 0, 1}, {0, 31, 21, NONE, 971, 0, 0, 99}};
        for (int[] r : rows) {
            for (int what = 0; what < 6; what++) {
                Due.due("at " + r[0] + " " + r[1] + " " + what, x.at(r[0], r[1], what), r[2 + what]);
            }
        }
    }

    private static void speedsAreBounded() {
        CartRows x = new CartRows();
        x.set(1, 3);
        x.push(0, -4);
        Due.due("0 at least", x.at(0, 0, 0), 0);
        Due.due("wish is whole", x.at(0, 0, 3), -4);
        x.set(1, 39);
        x.calm();
        x.push(0, 5);
        Due.due("40 at most", x.at(0, 0, 0), 40);
        Due.due("wish is by pull", x.at(0, 0, 3), 2);
        Due.due("40 goes on", x.at(0, 31, 2), 300 + 32 * 40);
        x.set(1, 0);
        x.calm();
        Due.due("speed 0", x.at(0, 31, 2), 300);
    }

    private static void feetAnswerLate() {
        for (int foot = 0; foot < 4; foot++) {
            CartRows x = Due.followers(2, "slow 1 when old above 98");
            x.make(0, 1, 4, 2, foot);
            x.make(1, 1, 4, 2, foot);
            x.push(0, -3);
            x.push(1, 1);
            Due.due("wish comes up", x.at(0, 0, 3), -3);
            for (int tick = 0; tick < 6; tick++) {
                int want = tick < foot ? 20 : tick == foot ? 17 : 18;
                Due.due("first, foot " + foot + " tick " + tick, x.at(0, tick, 0), want);
                Due.due("second, foot " + foot + " tick " + tick, x.at(1, tick, 0), tick < foot ? 20 : 19);
            }
        }
        CartRows x = new CartRows();
        x.make(0, 1, 4, 2, 3);
        x.push(29, -4);
        Due.due("what comes up too late is not done", x.at(0, 31, 0), 20);
        x.push(28, -4);
        Due.due("what comes up in time is", x.at(0, 31, 0), 16);
    }

    private static void wordsComeLate() {
        for (int wait = 0; wait <= 4; wait++) {
            CartRows x = new CartRows();
            x.row(0, 3);
            x.make(0, 1, 4, 2, 3);
            x.set(2, wait);
            x.push(5, -9);
            x.push(6, 1);
            int late = Math.max(1, wait);
            String by = " by wait " + wait;
            Due.due("not yet" + by, x.at(1, 4 + late, 4), 0);
            Due.due("heard, by brake, whatever the foot" + by, x.at(1, 5 + late, 4), 4);
            Due.due("heard by all" + by, x.at(2, 5 + late, 4), 4);
            Due.due("faster is 0" + by, x.at(1, 6 + late, 4), 0);
            Due.due("old" + by, x.at(1, 6 + late, 5), late);
            Due.due("none yet" + by, x.at(1, late - 1, 5), 99);
            Due.due("the first one" + by, x.at(1, late, 5), late);
            Due.due("heard of the first" + by, x.at(0, 5 + late, 4), 0);
            Due.due("old of the first" + by, x.at(0, 5 + late, 5), 99);
        }
    }

    private static void wordsAreLost() {
        CartRows x = new CartRows();
        x.row(0, 2);
        x.set(2, 2);
        x.push(5, -3);
        x.push(6, -2);
        x.lose(1 << 6 | 1 << 7);
        Due.due("heard", x.at(1, 7, 4), 3);
        Due.due("the last that was heard", x.at(1, 8, 4), 3);
        Due.due("its age", x.at(1, 8, 5), 3);
        Due.due("still", x.at(1, 9, 4), 3);
        Due.due("its age grows", x.at(1, 9, 5), 4);
        Due.due("till another comes", x.at(1, 10, 4), 0);
        Due.due("which is new", x.at(1, 10, 5), 2);
        x.lose(31);
        Due.due("none heard", x.at(1, 6, 4), 0);
        Due.due("none heard, 99", x.at(1, 6, 5), 99);
        Due.due("then one", x.at(1, 7, 5), 2);
    }

    private static void allByWhatWas() {
        CartRows x = Due.followers(4, "slow 3 when closing above 0");
        x.push(0, -3);
        for (int lorry = 0; lorry < 4; lorry++) {
            Due.due("ahead of its tick", lorry == 0 ? 20 : x.at(lorry, lorry - 1, 0), 20);
            Due.due("each sees it a tick later", x.at(lorry, lorry, 0), 17);
        }
    }

    private static void hills() {
        CartRows x = new CartRows();
        x.make(0, 10, 4, 2, 0);
        x.hill(340, 360, 9, 15);
        Due.due("not there when the tick begins", x.at(0, 1, 0), 20);
        Due.due("there, at its first place", x.at(0, 2, 0), 15);
        Due.due("still there", x.at(0, 3, 2), 370);
        x.push(3, 2);
        x.push(4, 2);
        Due.due("no faster there", x.at(0, 3, 0), 15);
        Due.due("faster behind it", x.at(0, 4, 0), 17);
        x.hill(340, 340, 0, 12);
        Due.due("both hills hold", x.at(0, 2, 0), 12);
        Due.due("then one", x.at(0, 3, 0), 14);
        x.make(0, 9, 4, 2, 0);
        Due.due("not that which is too light", x.at(0, 2, 0), 12);
        Due.due("so it goes on", x.at(0, 3, 0), 14);
        x.make(0, 10, 4, 2, 0);
        x.push(2, -4);
        x.push(1, -4);
        Due.due("slower than the slope is fine", x.at(0, 2, 0), 16 - 4);
        CartRows y = new CartRows();
        y.hill(340, 360, 0, 30);
        Due.due("a slope is no push", y.at(0, 2, 0), 20);
        y = new CartRows();
        y.hill(0, 320, 0, 20);
        y.push(1, 2);
        Due.due("its last place belongs to it", y.at(0, 1, 0), 20);
        y = new CartRows();
        y.hill(0, 319, 0, 20);
        y.push(1, 2);
        Due.due("not the one behind", y.at(0, 1, 0), 22);
    }

    private static void strangers() {
        CartRows x = new CartRows();
        x.row(0, 3);
        x.stranger(2, 3, 5, 18);
        Due.due("5, 3, 1, then touching", x.touch(0), 5);
        Due.due("by the second", x.touch(1), 2);
        Due.due("gaps to lorries go on", x.at(2, 5, 1), 10);
        Due.due("least is to the lorry", x.least(2), 10);
        x.stranger(2, 3, 4, 18);
        Due.due("gone in time", x.touch(0), NONE);
        x.stranger(2, 3, 4, 15);
        Due.due("0 touches", x.touch(0), 3);
        x.stranger(2, 3, 4, 16);
        Due.due("1 does not, less does", x.touch(0), 4);
        x.set(0, 1);
        x.stranger(2, 3, 4, 21);
        Due.due("half of 1 is 0, but 1 behind the tick", x.touch(0), NONE);
        x.stranger(2, 3, 4, 20);
        Due.due("half of 1 is 0", x.touch(0), 3);
        x.stranger(2, 31, 31, 0);
        Due.due("in the last tick", x.touch(0), 31);
        x.push(0, 1);
        Due.due("lorry 2 comes upon it", x.touch(1), 2);
    }

    private static void strangerGapIsCutTowardsZero() {
        CartRows x = Due.followers(2, "fast 1 when gap above 0 and old below 98");
        x.set(0, 1);
        x.push(0, -4);
        x.stranger(1, 1, 2, 22);
        Due.due("gap behind the first tick", x.at(1, 0, 1), -3);
        Due.due("-3 is cut to -1: no", x.at(1, 1, 3), 0);
        Due.due("-1 and 2: yes", x.at(1, 2, 3), 1);
    }

    private static void strangerIsWhatIsAhead() {
        CartRows x = Due.followers(3, "slow 1 when closing above 0; fast 1 when opening above 0");
        x.stranger(1, 2, 3, 15);
        Due.due("not yet", x.at(1, 1, 3), 0);
        Due.due("closing on it", x.at(1, 2, 3), -1);
        Due.due("still", x.at(1, 3, 3), -1);
        Due.due("gone: behind the lorry", x.at(1, 4, 3), 1);
        Due.due("the next sees its lorry", x.at(2, 2, 3), 0);
        Due.due("a tick later", x.at(2, 3, 3), -1);
        x = Due.followers(2, "slow 1 when gap below 3");
        x.stranger(1, 2, 3, 18);
        Due.due("5", x.at(1, 2, 3), 0);
        Due.due("3", x.at(1, 3, 3), 0);
        x.stranger(1, 2, 4, 18);
        Due.due("1", x.at(1, 4, 3), -1);
        Due.due("10 again", x.at(1, 5, 3), 0);
    }

    private static void touch() {
        CartRows x = new CartRows();
        Due.due("touch -1", x.touch(-1), OUTSIDE);
        Due.due("touch 2", x.touch(2), OUTSIDE);
        Due.due("one lorry", x.touch(0), NONE);
        x.row(0, 2);
        x.push(0, -4);
        Due.due("6, 2, -2", x.touch(0), 2);
        Due.due("who", x.touch(1), 1);
        x.set(0, 8);
        Due.due("4, 0", x.touch(0), 1);
        x.set(0, 99);
        Due.due("3, -1", x.touch(0), 24);
        Due.due("they go on all the same", x.at(1, 31, 1), 99 - 128);
        x = new CartRows();
        x.row(0b00010000, 4);
        x.make(1, 9, 4, 2, 0);
        x.hill(0, 300, 8, 0);
        Due.due("10, -10: lorry 3 stands in the way of none", x.touch(0), 0);
        Due.due("lorry 3 comes upon 2", x.touch(1), 3);
        x.push(0, -4);
        x.set(0, 4);
        Due.due("of several the least", x.touch(1), 1);
    }

    private static void least() {
        CartRows x = new CartRows();
        x.row(0, 2);
        Due.due("least of the first", x.least(0), Due.LEAST_INT);
        Due.due("least 2", x.least(2), Due.LEAST_INT);
        Due.due("least -1", x.least(-1), Due.LEAST_INT);
        Due.due("least, all alike", x.least(1), 10);
        x.push(0, 2);
        Due.due("not that at first", x.least(1), 12);
        x.push(1, -4);
        Due.due("12, 10, 8 ..", x.least(1), 12 - 31 * 2);
        x.push(5, 2);
        Due.due("12, 10, 8, 6, 4, 4", x.least(1), 4);
    }

    private static void dipAndGrows() {
        CartRows x = Due.followers(4, "slow 2 when closing above 0");
        x.make(1, 1, 4, 2, 1);
        x.push(0, -2);
        Due.due("dip -1", x.dip(-1), UNKNOWN);
        Due.due("dip 4", x.dip(4), UNKNOWN);
        Due.due("dip of the first", x.dip(0), 2);
        Due.due("a late foot dips more", x.dip(1), 4);
        int grown = 0;
        for (int lorry = 1; lorry < 4; lorry++) {
            grown |= x.dip(lorry) > x.dip(lorry - 1) ? 1 << lorry : 0;
        }
        Due.due("grows", x.grows(), grown);
        Due.due("to the second at least", x.grows() & 3, 2);
        x.make(1, 1, 4, 2, 0);
        Due.due("a foot in time dips as much", x.dip(1), 2);
        Due.due("and it does not grow", x.grows(), 0);
        x.calm();
        x.push(0, 2);
        Due.due("no dip by going faster", x.dip(0), 0);
        x = new CartRows();
        x.row(0b0100, 3);
        x.make(1, 5, 4, 2, 0);
        x.hill(0, 299, 4, 7);
        Due.due("the hill slows one", x.dip(1), 13);
        Due.due("which grows, the next does not", x.grows(), 2);
        Due.due("grows, one lorry", new CartRows().grows(), 0);
    }

    /** The first brakes once by 4; the second brakes by 4 when it hears it: wait times 4 are lost of the gap. */
    private static CartRows hearing() {
        CartRows x = Due.followers(2, "slow 4 when heard above 0");
        x.push(0, -4);
        return x;
    }

    private static void safeNeedWorst() {
        CartRows x = hearing();
        // what is told of these is nothing to the runs that are tried
        x.lose(-1);
        x.set(0, 1);
        x.set(2, 4);
        int[] needs = {5, 5, 9, 13, 17};
        for (int w = 0; w <= 4; w++) {
            Due.due("need, waits to " + w, x.need(w, 0), needs[w]);
            Due.due("safe, waits to " + w, x.safe(needs[w], w, 0), 1);
            Due.due("not safe, waits to " + w, x.safe(needs[w] - 1, w, 0), 0);
            Due.due("worst, waits to " + w, x.worst(needs[w], w, 0), NONE);
            Due.due("worst of one less " + w, x.worst(needs[w] - 1, w, 0), w < 2 ? 0 : 256 * w);
            Due.due("need with a loss", x.need(w, 1), NONE);
            Due.due("worst with a loss", x.worst(99, w, 1), 1);
            Due.due("worst with two", x.worst(99, w, 2), 1);
            Due.due("safe with a loss", x.safe(99, w, 1), 0);
        }
        Due.due("told stays", x.set(0, 10), 1);
        Due.due("told wait stays", x.set(2, 1), 4);
        Due.due("lost stays", x.at(1, 31, 5), 99);
        int[][] wrong = {{0, 0, 0}, {100, 0, 0}, {1, -1, 0}, {1, 5, 0}, {1, 0, -1}, {1, 0, 3}};
        for (int[] w : wrong) {
            Due.due("safe, wrong", x.safe(w[0], w[1], w[2]), OUTSIDE);
            Due.due("worst, wrong", x.worst(w[0], w[1], w[2]), OUTSIDE);
            if (w[0] == 1) {
                Due.due("need, wrong", x.need(w[1], w[2]), OUTSIDE);
            }
        }
        x.calm();
        x.push(8, -4);
        Due.due("words of tick 8 are not lost", x.need(4, 2), 17);
        x.calm();
        x.push(7, -4);
        Due.due("words of tick 7 may be", x.worst(17, 0, 1), 128);
    }

    private static void needIsTheLeastSafe() {
        CartRows x = new CartRows();
        x.row(0, 2);
        x.push(0, -2);
        x.push(30, -2);
        Due.due("60 and 8 are lost: none within 60", x.need(0, 0), NONE);
        Due.due("but 69 is safe", x.safe(69, 0, 0), 1);
        Due.due("and 68 is not", x.safe(68, 0, 0), 0);
        x.calm();
        x.push(2, -2);
        Due.due("60 are lost: none within 60", x.need(4, 2), NONE);
        x.calm();
        x.push(3, -2);
        Due.due("58 are lost", x.need(4, 2), 59);
        x.calm();
        x.push(0, -1);
        x.push(5, -1);
        Due.due("59 are lost: 60 is still tried", x.need(4, 2), 60);
        Due.due("one lorry", new CartRows().need(4, 2), 1);
        // safe, not safe, safe: a hill that stops the lorry ahead if it begins on it
        x = new CartRows();
        x.row(0b0100, 3);
        x.make(1, 20, 4, 2, 0);
        x.hill(290, 297, 10, 0);
        Due.due("gap 1 is safe", x.need(0, 0), 1);
        Due.due("gap 5 is not", x.safe(5, 0, 0), 0);
        Due.due("gap 11 is", x.safe(11, 0, 0), 1);
        x.hill(298, 299, 10, 0);
        Due.due("now from 11 on", x.need(0, 0), 11);
    }

    private static void worstIsFirst() {
        CartRows x = hearing();
        x.push(1, -4);
        Due.due("losing 0 is the least", x.worst(9, 0, 2), 1);
        Due.due("all is heard", x.worst(9, 0, 0), NONE);
        x = Due.followers(2, "slow 4 when heard above 0");
        x.push(3, -4);
        Due.due("the word of tick 3", x.worst(5, 1, 1), 8);
        Due.due("with two losses too", x.worst(5, 1, 2), 8);
        Due.due("a wait comes behind all losses", x.worst(5, 2, 0), 512);
        Due.due("losses come ahead of a wait", x.worst(5, 2, 1), 8);
        x = Due.followers(2, "slow 8 when heard above 0");
        x.make(1, 1, 8, 2, 0);
        x.push(1, -4);
        x.push(2, -4);
        Due.due("both must be lost", x.worst(20, 0, 2), 6);
        Due.due("one is not enough", x.worst(20, 0, 1), NONE);
        x.push(3, -4);
        Due.due("of three, the third comes too late to make up for two", x.worst(40, 0, 2), 6);
        Due.due("one of three is not enough", x.worst(40, 0, 1), NONE);
    }

    private static void sparing() {
        CartRows x = Due.followers(2, "slow 8 when heard above 0");
        x.make(1, 1, 8, 2, 0);
        x.push(0, -4);
        x.push(1, -4);
        x.set(0, 20);
        Due.due("none touch", x.sparing(), 0);
        x.lose(2);
        Due.due("none touch, though one is lost", x.sparing(), 0);
        x.lose(3);
        Due.due("each of two would spare it", x.sparing(), 3);
        Due.due("lost as told", x.touch(0), 2);
        x.lose(-1);
        Due.due("the same of all", x.sparing(), 3);
        x.push(31, -4);
        Due.due("the last word comes too late", x.sparing(), 3);
        x.set(0, 3);
        Due.due("nothing spares it", x.sparing(), 0);
        x.set(0, 20);
        x.set(2, 4);
        Due.due("by the wait as told", x.sparing(), 0);
        x.set(0, 36);
        Due.due("the second word, heard in tick 5, comes too late", x.sparing(), 1);
        x.set(0, 28);
        Due.due("the first too", x.sparing(), 0);
        x.set(0, 37);
        Due.due("the lost words are as they were", x.sparing(), 3);
    }

    private static void bears() {
        CartRows x = new CartRows();
        Due.due("bears, to less", x.bears(301, 300), OUTSIDE);
        Due.due("bears -1", x.bears(-1, 300), OUTSIDE);
        Due.due("bears 2001", x.bears(0, 2001), OUTSIDE);
        Due.due("bears from 2001", x.bears(2001, 2001), OUTSIDE);
        Due.due("not where it is at first", x.bears(300, 319), 0);
        Due.due("its first place", x.bears(320, 330), 1);
        Due.due("its last place", x.bears(310, 320), 1);
        Due.due("between ticks", x.bears(321, 339), 0);
        Due.due("behind the last tick", x.bears(940, 940), 1);
        Due.due("never there", x.bears(941, 2000), 0);
        x.row(0b100100, 4);
        x.make(0, 7, 1, 1, 0);
        x.make(1, 10, 1, 1, 0);
        x.make(2, 30, 1, 1, 0);
        Due.due("all", x.bears(0, 2000), 7 + 10 + 30 + 7);
        Due.due("one at once, the heaviest", x.bears(400, 409), 30);
        Due.due("two at once", x.bears(400, 410), 10 + 30);
        Due.due("the heaviest three", x.bears(400, 420), 7 + 30 + 10);
        x.row(0b0101, 2);
        x.set(1, 0);
        Due.due("those that stand", x.bears(290, 300), 20);
        x.set(0, 99);
        x.row(0, 6);
        Due.due("places below 0 are off every bridge", x.bears(0, 2000), 4 * 7);
    }
}
