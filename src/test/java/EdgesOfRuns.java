/** Edges of a RUN, and of what is asked of it: promises 14 to 18 and 23. */
final class EdgesOfRuns {
    private static final int NONE = CartRows.NONE, UNKNOWN = CartRows.UNKNOWN, OUTSIDE = CartRows.OUTSIDE;
    private static final int LEAST = Integer.MIN_VALUE, GREATEST = Integer.MAX_VALUE;

    private EdgesOfRuns() {
    }

    static void check() {
        allByWhatWas();
        words();
        gapIsRead();
        closingAndOpening();
        heardAndOld();
        wishes();
        wishesAreDone();
        going();
        touching();
        dipOf();
        pushGrows();
        at();
        touch();
        least();
        dip();
        grows();
        bearsOf();
        bears();
    }

    private static void allByWhatWas() {
        Doc.says("In each TICK t, all by what was when it began:");
        CartRows x = Due.followers(6, "slow 3 when closing above 0");
        x.push(0, -3);
        for (int lorry = 1; lorry < 6; lorry++) {
            Due.due("it does not see what the one ahead does in this tick", x.at(lorry, lorry - 1, 3), 0);
            Due.due("but what it did in the one before", x.at(lorry, lorry, 3), -3);
            Due.due("and once alone", x.at(lorry, lorry + 1, 3), 0);
        }
        x = Due.followers(2, "slow 3 when gap below 10");
        x.push(0, -1);
        Due.due("nor the gap behind this tick", x.at(1, 0, 3), 0);
        Due.due("but behind the one before", x.at(1, 1, 3), -3);
    }

    private static void words() {
        Doc.says("WORDS: the FIRST says in each TICK s by how much it wished to be slower (0, if not), heard by all in "
            + "TICK s + WAIT (at its begin; with WAIT 0 in TICK s + 1), if it is not LOST.");
        for (int wait = 0; wait <= 4; wait++) {
            int late = Math.max(1, wait);
            CartRows x = new CartRows();
            x.row(0, 6);
            x.make(0, 1, 9, 5, 0);
            x.set(2, wait);
            x.push(0, -9);
            x.push(1, -1);
            x.push(2, 0);
            x.push(3, 5);
            x.push(31 - late, -7);
            x.push(32 - late, -8);
            for (int lorry = 1; lorry < 6; lorry += 4) {
                Due.due("none yet", x.at(lorry, late - 1, 5), 99);
                Due.due("none yet: 0", x.at(lorry, late - 1, 4), 0);
                int[] said = {9, 1, 0, 0, 0};
                for (int s = 0; s < said.length; s++) {
                    Due.due("said in " + s + " with wait " + wait, x.at(lorry, s + late, 4), said[s]);
                    Due.due("as old as it is late", x.at(lorry, s + late, 5), late);
                }
                Due.due("the last that is heard", x.at(lorry, 31, 4), 7);
            }
            x.lose(1);
            Due.due("the first is lost", x.at(1, late, 5), 99);
            Due.due("and not heard", x.at(1, late, 4), 0);
            Due.due("the second is not", x.at(1, 1 + late, 4), 1);
        }
    }

    private static void gapIsRead() {
        Doc.says("READINGS of a LORRY that is not the FIRST: gap (to what is ahead of it; 99 at most),");
        CartRows x = Due.followers(2, "slow 1 when gap above 99;fast 1 when gap above 98");
        x.set(0, 98);
        Due.due("98", x.at(1, 0, 3), 0);
        x.set(0, 99);
        Due.due("99", x.at(1, 0, 3), 1);
        x.push(0, 2);
        x.push(1, 2);
        x.push(2, 2);
        Due.due("more than 99", x.at(1, 2, 1) > 99 ? 1 : 0, 1);
        Due.due("is read as 99", x.at(1, 3, 3), 1);
        x = Due.followers(2, "slow 1 when gap below 0;fast 1 when gap below 1;keep");
        x.set(0, 1);
        x.push(0, -1);
        x.push(1, 1);
        Due.due("1", x.at(1, 0, 3), 0);
        Due.due("0", x.at(1, 1, 3), 1);
        Due.due("-1 is below 0", x.at(1, 1, 1) == -1 ? x.at(1, 2, 3) : LEAST, -1);
        x = new CartRows();
        Due.tell(x, 0, "slow 1");
        Due.due("the first reads nothing", x.at(0, 0, 3), 0);
    }

    /** The wish of lorry 1, of speed 20, in tick 0, with a stranger of a speed ahead of it. */
    private static int wishBehind(int speed, String test) {
        CartRows x = Due.followers(2, "fast 1 when " + test);
        x.stranger(1, 0, 0, speed);
        return x.at(1, 0, 3);
    }

    private static void closingAndOpening() {
        Doc.says("closing (its speed less that of what is ahead), opening (that less its own) (0, if less), speed,");
        for (int speed : new int[] {0, 19, 20, 21, 40}) {
            int closing = Math.max(0, 20 - speed);
            int opening = Math.max(0, speed - 20);
            Due.due("closing by " + speed, wishBehind(speed, "closing below " + (closing + 1)), 1);
            Due.due("closing by " + speed, wishBehind(speed, "closing below " + closing), 0);
            Due.due("closing by " + speed, wishBehind(speed, "closing above " + closing), 0);
            Due.due("opening by " + speed, wishBehind(speed, "opening below " + (opening + 1)), 1);
            Due.due("opening by " + speed, wishBehind(speed, "opening below " + opening), 0);
            Due.due("opening by " + speed, wishBehind(speed, "opening above " + opening), 0);
            Due.due("its own speed by " + speed, wishBehind(speed, "speed above 19 and speed below 21"), 1);
        }
        for (int speed : new int[] {0, 1, 39, 40}) {
            CartRows x = Due.followers(2, "slow 1 when speed above " + speed + ";fast 1 when speed below " + speed);
            x.set(1, speed);
            Due.due("neither above nor below " + speed, x.at(1, 0, 3), 0);
        }
    }

    private static void heardAndOld() {
        Doc.says("heard (of the word said last among those it heard; 0 without), old (t less the TICK in which that was "
            + "said; 99 without).");
        CartRows x = Due.followers(2, "slow 1 when heard above 2 and heard below 4;slow 2 when old above 98");
        x.set(0, 99);
        x.set(2, 3);
        x.push(1, -3);
        x.push(2, -1);
        x.lose(1 << 2 | 1 << 3);
        int[] heard = {0, 0, 0, 0, 3, 3, 3, 0};
        int[] old = {99, 99, 99, 3, 3, 4, 5, 3};
        int[] wish = {-2, -2, -2, 0, -1, -1, -1, 0};
        for (int tick = 0; tick < 8; tick++) {
            Due.due("heard in " + tick, x.at(1, tick, 4), heard[tick]);
            Due.due("old in " + tick, x.at(1, tick, 5), old[tick]);
            Due.due("wish in " + tick, x.at(1, tick, 3), wish[tick]);
        }
        x.set(2, 1);
        x.lose(~1);
        Due.due("one word, all 31 ticks old", x.at(1, 31, 5), 31);
        x.lose(-1);
        Due.due("none at all: 0", x.at(1, 31, 4), 0);
        Due.due("none at all: 99", x.at(1, 31, 5), 99);
    }

    private static void wishes() {
        Doc.says("Its wish is WISH of its make's TABLE; that of the FIRST as PUSHED, by BRAKE and PULL at most.");
        CartRows x = Due.followers(3, "fast 1");
        x.row(0b100100, 3);
        Due.tell(x, 2, "slow 2");
        Due.tell(x, 0, "fast 2");
        Due.due("by the table of make 1", x.at(1, 0, 3), 1);
        Due.due("by the table of make 2", x.at(2, 0, 3), -2);
        Due.due("the first has a table and does not heed it", x.at(0, 0, 3), 0);
        for (int brake = 1; brake <= 9; brake++) {
            x = new CartRows();
            x.make(0, 1, brake, 1 + brake % 5, 0);
            for (int v : new int[] {-9, -brake, 1 - brake, 0, 1, 5}) {
                x.calm();
                x.push(6, v);
                Due.due("push " + v, x.at(0, 6, 3), Math.max(-brake, Math.min(1 + brake % 5, v)));
            }
        }
    }

    private static void wishesAreDone() {
        Doc.says("A wish is done FOOT TICKS behind that in which it came up (till then 0): speed is so much more, 0 at "
            + "least, 40 at most, on a HILL its SLOPE at most.");
        for (int foot = 0; foot <= 3; foot++) {
            CartRows x = Due.followers(2, "slow 1 when old above 98");
            x.make(0, 1, 9, 5, foot);
            x.make(1, 1, 4, 2, foot);
            x.push(0, -9);
            for (int tick = 0; tick < 5; tick++) {
                Due.due("first, foot " + foot, x.at(0, tick, 0), tick < foot ? 20 : 11);
                Due.due("second, foot " + foot, x.at(1, tick, 0), tick < foot ? 20 : 19);
            }
            x.calm();
            x.push(31 - foot, -9);
            x.push(30 - foot, -1);
            Due.due("in the last tick", x.at(0, 31, 0), 10);
            Due.due("the tick before", x.at(0, 30, 0), 19);
            x.calm();
            for (int late = 32 - foot; late < 32; late++) {
                x.push(late, -9);
            }
            Due.due("none that comes up later", x.at(0, 31, 0), 20);
        }
        CartRows x = new CartRows();
        x.make(0, 1, 9, 5, 0);
        x.push(0, -9);
        x.push(1, 5);
        for (int speed : new int[] {0, 1, 8, 9, 10}) {
            x.set(1, speed);
            Due.due("0 at least", x.at(0, 0, 0), Math.max(0, speed - 9));
            Due.due("and from there on", x.at(0, 1, 0), Math.max(0, speed - 9) + 5);
        }
        x.calm();
        x.push(0, 5);
        x.push(1, -9);
        for (int speed : new int[] {34, 35, 36, 40}) {
            x.set(1, speed);
            Due.due("40 at most", x.at(0, 0, 0), Math.min(40, speed + 5));
            Due.due("and from there on", x.at(0, 1, 0), Math.min(40, speed + 5) - 9);
        }
        x.hill(300, 300, 0, 36);
        Due.due("its slope at most, by the wish", x.at(0, 0, 0), 36);
        x.set(1, 30);
        Due.due("below its slope", x.at(0, 0, 0), 35);
        x.hill(300, 300, 0, 3);
        Due.due("of two hills the lesser slope", x.at(0, 0, 0), 3);
        Due.due("0 at least from there", x.at(0, 1, 0), 0);
        x = new CartRows();
        x.hill(300, 300, 0, 3);
        x.hill(300, 300, 0, 36);
        Due.due("whichever was told first", x.at(0, 0, 0), 3);
    }

    private static void going() {
        Doc.says("Then each goes as far as its speed is; gaps are so much more or less.");
        CartRows x = Due.followers(2, "fast 1 when old above 98");
        x.push(0, -4);
        Due.due("the first goes its new speed", x.at(0, 0, 2), 316);
        Due.due("the second too", x.at(1, 0, 2), 311);
        Due.due("less", x.at(1, 0, 1), 5);
        Due.due("and less", x.at(1, 1, 1), 0);
        Due.due("and below 0", x.at(1, 2, 1), -5);
        x.calm();
        x.push(0, 2);
        Due.due("more", x.at(1, 0, 1), 11);
        x.set(1, 0);
        x.calm();
        Due.due("speed 0 goes nowhere", x.at(0, 31, 2), 300);
        x.set(1, 40);
        Due.due("40 each tick", x.at(0, 31, 2), 300 + 32 * 40);
        Due.due("places and gaps tell the same", x.at(0, 31, 2) - x.at(1, 31, 2), x.at(1, 31, 1));
    }

    private static void touching() {
        Doc.says("LORRIES TOUCH in a TICK, if behind it a gap of a LORRY to the one ahead, or to the STRANGER, is 0 or "
            + "less. They go on all the same.");
        CartRows x = new CartRows();
        x.row(0, 2);
        x.push(0, -4);
        int[] gaps = {1, 3, 4, 5, 7, 8, 9, 99};
        int[] ticks = {0, 0, 0, 1, 1, 1, 2, 24};
        for (int i = 0; i < gaps.length; i++) {
            x.set(0, gaps[i]);
            Due.due("gap " + gaps[i], x.touch(0), ticks[i]);
            Due.due("they go on", x.at(1, 31, 1), gaps[i] - 128);
        }
        x.calm();
        x.set(0, 1);
        Due.due("1 is no touch", x.touch(0), NONE);
        x.set(0, 2);
        x.stranger(1, 4, 4, 19);
        Due.due("the stranger: 1, then 0", x.touch(0), 4);
        x.stranger(1, 4, 4, 20);
        Due.due("1 is no touch", x.touch(0), NONE);
        x.stranger(1, 4, 4, 18);
        Due.due("-1 is one", x.touch(0), 4);
        x.set(0, 1);
        x.stranger(1, 4, 4, 21);
        Due.due("0 as it comes, 1 behind the tick", x.touch(0), NONE);
        x.set(0, 10);
        x.stranger(1, 4, 6, 18);
        Due.due("5, 3, 1, -1", x.touch(0), 6);
        x.stranger(1, 4, 5, 18);
        Due.due("gone before", x.touch(0), NONE);
        x.push(0, -4);
        x.push(5, 2);
        x.push(6, 2);
        x.stranger(1, 0, 31, 40);
        Due.due("behind the stranger the gap to the lorry counts too", x.touch(0), 2);
    }

    private static void dipOf() {
        Doc.says("DIP of a LORRY: SPEED at first less its least speed (that at first with it).");
        CartRows x = new CartRows();
        Due.due("none", x.dip(0), 0);
        x.push(0, 2);
        Due.due("faster: that at first is the least", x.dip(0), 0);
        x.push(1, -4);
        Due.due("22, 18", x.dip(0), 2);
        x.push(31, -4);
        Due.due("the last tick counts", x.dip(0), 6);
        x.calm();
        x.push(0, -1);
        x.push(1, 2);
        Due.due("the first tick counts", x.dip(0), 1);
        for (int tick = 0; tick < 32; tick++) {
            x.calm();
            x.push(tick, -3);
            if (tick < 31) {
                x.push(tick + 1, 2);
            }
            Due.due("in tick " + tick + " alone", x.dip(0), 3);
        }
        x.set(1, 0);
        Due.due("there is none below 0", x.dip(0), 0);
        x.set(1, 40);
        x.make(0, 1, 9, 5, 0);
        x.calm();
        for (int tick = 0; tick < 5; tick++) {
            x.push(tick, -9);
        }
        Due.due("all of it", x.dip(0), 40);
    }

    private static void pushGrows() {
        Doc.says("A PUSH GROWS, if a LORRY's DIP is greater than that of the one ahead.");
        CartRows x = Due.followers(2, "slow 1 when old above 97");
        Due.due("0 and 1", x.grows(), 2);
        x.push(0, -1);
        Due.due("1 and 1", x.grows(), 0);
        x.push(0, -2);
        Due.due("2 and 1", x.grows(), 0);
    }

    private static void at() {
        Doc.says("Of a LORRY behind a TICK: speed (what 0), gap to the LORRY ahead (1; NONE: the FIRST; may be below 0), "
            + "place (2), wish that came up in it (3), heard at its begin (4), old (5) (0 and 99 of the FIRST). The least "
            + "int: UNKNOWN, OUTSIDE.");
        CartRows x = Due.followers(6, "slow 1 when heard above 0");
        x.push(0, -4);
        int[][] rows = {{0, 0, 16, NONE, 316, -4, 0, 99}, {0, 1, 16, NONE, 332, 0, 0, 99}, {1, 0, 20, 6, 310, 0, 0, 99},
            {1, 1, 19, 3, 329, -1, 4, 1}, {1, 2, 19, 0, 348, 0, 0, 1}, {1, 3, 19, -3, 367, 0, 0, 1},
            {5, 0, 20, 10, 270, 0, 0, 99}, {5, 31, 19, 10, 859, 0, 0, 1}, {0, 31, 16, NONE, 812, 0, 0, 99}};
        for (int[] r : rows) {
            for (int what = 0; what < 6; what++) {
                Due.due("at " + r[0] + ", " + r[1] + ", " + what, x.at(r[0], r[1], what), r[2 + what]);
            }
        }
        int[][] refused = {{-1, 0, 0}, {6, 0, 0}, {LEAST, 0, 0}, {GREATEST, 0, 0}, {0, -1, 0}, {0, 32, 0}, {0, LEAST, 0},
            {0, GREATEST, 0}, {0, 0, -1}, {0, 0, 6}, {0, 0, LEAST}, {0, 0, GREATEST}, {6, 32, 6}, {-1, -1, -1}};
        for (int[] r : refused) {
            Due.due("at " + java.util.Arrays.toString(r), x.at(r[0], r[1], r[2]), LEAST);
        }
        Due.due("a lorry that comes", x.row(0, 2) + x.at(1, 0, 2), 1 + 310);
        Due.due("a lorry that is no more", x.at(2, 0, 2), LEAST);
    }

    private static void touch() {
        Doc.says("The first TICK in which some TOUCH (what 0), the LORRY that comes upon another (1; of several the least); "
            + "NONE: none do. OUTSIDE.");
        CartRows x = new CartRows();
        for (int what : new int[] {-1, 2, LEAST, GREATEST}) {
            Due.due("touch " + what, x.touch(what), OUTSIDE);
        }
        Due.due("one alone", x.touch(0), NONE);
        Due.due("one alone", x.touch(1), NONE);
        x.row(0, 6);
        Due.due("six", x.touch(0), NONE);
        Due.due("six", x.touch(1), NONE);
        // lorries 3 and 5 are of a make that is stopped where it begins: 4 comes upon 3, later others upon 5
        x.row(0b01_00_01_00_00_00, 6);
        x.make(1, 9, 4, 2, 0);
        x.hill(0, 2000, 8, 0);
        x.set(0, 20);
        Due.due("the first tick", x.touch(0), 0);
        Due.due("4 comes upon 3", x.touch(1), 4);
        x.row(0b01_00_01_00_01_00, 6);
        Due.due("2 upon 1, 4 upon 3, in the same tick: the least", x.touch(1), 2);
        x.push(0, -4);
        x.push(1, -4);
        Due.due("that of the first tick, though 1 comes upon 0 never", x.touch(1), 2);
        x = new CartRows();
        x.row(0, 3);
        x.push(31, -4);
        x.set(0, 4);
        Due.due("in the last tick", x.touch(0), 31);
        Due.due("1 upon 0", x.touch(1), 1);
        x.stranger(2, 31, 31, 0);
        Due.due("of several, one of them upon the stranger, the least", x.touch(1), 1);
        x.stranger(2, 30, 31, 0);
        Due.due("the first tick", x.touch(0), 30);
        Due.due("upon the stranger", x.touch(1), 2);
        x.stranger(2, 30, 31, 40);
        x.calm();
        Due.due("none any more", x.touch(1), NONE);
        Due.due("in no tick", x.touch(0), NONE);
        for (int tick = 0; tick < 32; tick++) {
            x.stranger(2, tick, tick, 0);
            Due.due("in tick " + tick, x.touch(0), tick);
        }
    }

    private static void least() {
        Doc.says("The least gap of a LORRY to the LORRY ahead, behind any TICK. The least int: UNKNOWN: also the FIRST.");
        CartRows x = new CartRows();
        for (int lorry : new int[] {-1, 0, 1, 6, LEAST, GREATEST}) {
            Due.due("least of " + lorry + " of one", x.least(lorry), LEAST);
        }
        x.row(0, 6);
        for (int lorry : new int[] {-1, 0, 6, LEAST, GREATEST}) {
            Due.due("least of " + lorry + " of six", x.least(lorry), LEAST);
        }
        Due.due("least of 1", x.least(1), 10);
        Due.due("least of 5", x.least(5), 10);
        x.push(0, 2);
        Due.due("that at first is not behind a tick", x.least(1), 12);
        x.calm();
        x.push(31, -4);
        Due.due("the last tick counts", x.least(1), 6);
        for (int tick = 0; tick < 32; tick++) {
            x.calm();
            x.push(tick, -1);
            // at once so much faster that the gap is less in that tick alone
            if (tick < 31) {
                x.push(tick + 1, 2);
            }
            Due.due("behind tick " + tick + " alone", x.least(1), 9);
        }
        x.calm();
        x.push(0, -4);
        Due.due("below 0", x.least(1), 10 - 128);
        Due.due("of others it is theirs", x.least(2), 10);
        x.stranger(2, 0, 31, 0);
        Due.due("the stranger is no lorry", x.least(2), 10);
    }

    private static void dip() {
        Doc.says("DIP of a LORRY. UNKNOWN.");
        CartRows x = Due.followers(6, "slow 2 when old above 98;slow 1 when heard above 0");
        x.push(0, -4);
        Due.due("of the first", x.dip(0), 4);
        Due.due("of the second", x.dip(1), 3);
        Due.due("of the last", x.dip(5), 3);
        for (int lorry : new int[] {-1, 6, LEAST, GREATEST}) {
            Due.due("dip of " + lorry, x.dip(lorry), UNKNOWN);
        }
        x.row(0, 1);
        Due.due("one alone", x.dip(0), 4);
        Due.due("none beside it", x.dip(1), UNKNOWN);
    }

    private static void grows() {
        Doc.says("LORRIES whose DIP is greater than that of the one ahead, by bits.");
        CartRows x = new CartRows();
        x.push(0, -4);
        Due.due("one alone: none is ahead", x.grows(), 0);
        x.row(0, 6);
        Due.due("less and alike", x.grows(), 0);
        x.calm();
        Due.due("all alike", x.grows(), 0);
        // make 1 goes 15 at most, make 2 goes 10
        x.make(1, 2, 4, 2, 0);
        x.make(2, 3, 4, 2, 0);
        x.hill(0, 2000, 1, 15);
        x.hill(0, 2000, 2, 10);
        x.row(0b10_01_10_01_00_00, 6);
        Due.due("0, 0, 5, 10, 5, 10", x.grows(), 1 << 2 | 1 << 3 | 1 << 5);
        x.row(0b10_10_10_10_10_01, 6);
        Due.due("5, 10 and on", x.grows(), 2);
        x.row(0b10_00_10_00_10_00, 6);
        Due.due("each second one", x.grows(), 0b101010);
    }

    private static void bearsOf() {
        Doc.says("BEARS of a BRIDGE (a place to a place): the most WEIGHT at once of LORRIES that are on it behind some "
            + "TICK (with both places).");
        CartRows x = new CartRows();
        x.row(0b0100, 2);
        x.make(0, 7, 4, 2, 0);
        x.make(1, 11, 4, 2, 0);
        Due.due("not where it is as the run begins", x.bears(300, 309), 0);
        Due.due("behind the first tick", x.bears(310, 310), 11);
        Due.due("its first place", x.bears(320, 329), 7);
        Due.due("its last place", x.bears(311, 320), 7);
        Due.due("between", x.bears(321, 329), 0);
        Due.due("one of two at once", x.bears(400, 409), 7);
        Due.due("both at its ends", x.bears(390, 400), 18);
        Due.due("one a place behind its end", x.bears(391, 400), 7);
        Due.due("one a place ahead of it", x.bears(390, 399), 11);
        Due.due("the other alone is more", x.bears(410, 419), 11);
        Due.due("behind the last tick", x.bears(940, 2000), 7);
        Due.due("none comes there", x.bears(941, 2000), 0);
    }

    private static void bears() {
        Doc.says("BEARS. OUTSIDE: places (0 .. 2000; to not less than from).");
        CartRows x = new CartRows();
        x.row(0b111111111111, 6);
        x.make(3, 40, 4, 2, 0);
        int[][] outside = {{-1, 0}, {-1, 2000}, {0, 2001}, {2001, 2001}, {0, -1}, {1, 0}, {2000, 1999}, {LEAST, 2000},
            {0, GREATEST}, {GREATEST, LEAST}, {LEAST, GREATEST}};
        for (int[] o : outside) {
            Due.due("bears " + java.util.Arrays.toString(o), x.bears(o[0], o[1]), OUTSIDE);
        }
        Due.due("the most of all", x.bears(0, 2000), 240);
        Due.due("place 2000", x.bears(2000, 2000), 0);
        x.set(1, 0);
        x.set(0, 60);
        Due.due("place 0", x.bears(0, 0), 40);
        Due.due("place 0 and on", x.bears(0, 59), 40);
        Due.due("place 0 to 60", x.bears(0, 60), 80);
        x.set(0, 61);
        Due.due("below 0 is on none", x.bears(0, 2000), 200);
    }
}
