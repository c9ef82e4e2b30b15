/** Edges of SAFE, LEAST GAP, WORST and SPARING: promises 19 to 22. */
final class EdgesOfChances {
    private static final int NONE = CartRows.NONE, OUTSIDE = CartRows.OUTSIDE;
    private static final int LEAST = Integer.MIN_VALUE, GREATEST = Integer.MAX_VALUE;
    private static final int[][] NO_CHANCES = {{-1, 0}, {5, 0}, {0, -1}, {0, 3}, {LEAST, 0}, {GREATEST, 0}, {0, LEAST},
        {0, GREATEST}, {5, 3}, {-1, -1}};

    private EdgesOfChances() {
    }

    static void check() {
        safeOf();
        leastGap();
        worstOf();
        sparingOf();
        safe();
        need();
        worst();
        sparing();
    }

    /** The first brakes by 4 in a tick, the second by 4 when it hears of it: 4 of the gap are lost in each tick till then. */
    private static CartRows hearing(int tick) {
        CartRows x = Due.followers(2, "slow 4 when heard above 0");
        x.push(tick, -4);
        return x;
    }

    /** The first brakes by 4 in two ticks; the second by 8 when it hears of one: both must be lost to make it touch. */
    private static CartRows hearingOneOfTwo(int one, int two) {
        CartRows x = Due.followers(2, "slow 8 when heard above 0 and speed above 12");
        x.make(1, 1, 8, 2, 0);
        x.push(one, -4);
        x.push(two, -4);
        return x;
    }

    private static void safeOf() {
        Doc.says("SAFE is a GAP with WAITS 0 .. w and LOSSES of l words (0 .. 2): in no RUN with that GAP, any of these "
            + "WAITS and any l or fewer of the words of TICKS 0 .. 7 LOST (no others) do any TOUCH (all else as told).");
        int[] needed = {5, 5, 9, 13, 17};
        CartRows x = hearing(3);
        for (int w = 0; w <= 4; w++) {
            Due.due("the gap behind the tick is 1, waits to " + w, x.safe(needed[w], w, 0), 1);
            Due.due("it is 0, waits to " + w, x.safe(needed[w] - 1, w, 0), 0);
        }
        Due.due("a loss is one too many", x.safe(99, 0, 1), 0);
        Due.due("two too, of which one is fewer", x.safe(99, 0, 2), 0);
        for (int tick : new int[] {0, 7}) {
            x = hearing(tick);
            Due.due("the word of " + tick + " may be lost", x.safe(99, 0, 1), 0);
        }
        for (int tick : new int[] {8, 9, 20}) {
            x = hearing(tick);
            Due.due("the word of " + tick + " is none that may be lost", x.safe(17, 4, 2), 1);
            Due.due("by the waits it is not", x.safe(16, 4, 0), 0);
        }
        x = hearingOneOfTwo(0, 7);
        Due.due("one loss is not enough", x.safe(60, 0, 1), 1);
        Due.due("two are", x.safe(60, 0, 2), 0);
        x = hearingOneOfTwo(0, 8);
        Due.due("the second may not be lost", x.safe(60, 0, 2), 1);
        x = hearing(3);
        x.lose(-1);
        x.set(0, 1);
        x.set(2, 4);
        Due.due("no others are lost, whatever was told", x.safe(5, 0, 0), 1);
        Due.due("what was told stands: lost", x.at(1, 31, 5), 99);
        Due.due("what was told stands: gap", x.set(0, 50), 1);
        Due.due("what was told stands: wait", x.set(2, 0), 4);
        x.set(1, 2);
        Due.due("speed as told: 2, so that 2 are lost", x.safe(3, 0, 0), 1);
        Due.due("and no less", x.safe(2, 0, 0), 0);
        x = new CartRows();
        x.row(0, 2);
        x.stranger(1, 30, 30, 10);
        Due.due("stranger as told: 10 - 10", x.safe(21, 4, 2), 0);
        Due.due("stranger as told: 11 - 10", x.safe(22, 4, 2), 1);
        x.hill(300, 300, 0, 15);
        Due.due("hill as told", x.safe(22, 4, 2), 0);
        Due.due("one alone", new CartRows().safe(1, 4, 2), 1);
    }

    private static void leastGap() {
        Doc.says("LEAST GAP: the least that is SAFE (1 .. 60); none.");
        CartRows x = new CartRows();
        x.row(0, 6);
        Due.due("1", x.need(4, 2), 1);
        // each push of 1 costs 1 in each tick from then on
        x.push(31, -1);
        Due.due("2", x.need(4, 2), 2);
        x.calm();
        x.push(0, -1);
        x.push(6, -1);
        Due.due("32 and 26 are lost: 59", x.need(4, 2), 59);
        x.calm();
        x.push(0, -1);
        x.push(5, -1);
        Due.due("32 and 27 are lost: 60", x.need(4, 2), 60);
        Due.due("60 is safe", x.safe(60, 4, 2), 1);
        x.calm();
        x.push(0, -1);
        x.push(4, -1);
        Due.due("32 and 28 are lost: none", x.need(4, 2), NONE);
        Due.due("though 61 is safe", x.safe(61, 4, 2), 1);
        // a hill that stops the second lorry where it begins, if its gap is 3 .. 10, and with it the third
        x = new CartRows();
        x.row(0b0100, 3);
        x.make(1, 20, 4, 2, 0);
        x.hill(290, 297, 10, 0);
        Due.due("1 is safe", x.safe(1, 0, 0), 1);
        Due.due("3 is not", x.safe(3, 0, 0), 0);
        Due.due("10 is not", x.safe(10, 0, 0), 0);
        Due.due("11 is safe again", x.safe(11, 0, 0), 1);
        Due.due("the least of them", x.need(0, 0), 1);
        x.hill(298, 299, 10, 0);
        Due.due("the least behind those that are not", x.need(0, 0), 11);
    }

    private static void worstOf() {
        Doc.says("WORST: of those RUNS, with a GAP, the first in which some TOUCH: by WAIT, then by LOST (as a number).");
        CartRows x = hearing(3);
        Due.due("by losses ahead of waits", x.worst(5, 4, 1), 8);
        Due.due("nothing lost is ahead of that", x.worst(4, 4, 2), 0);
        Due.due("wait 1 is like 0", x.worst(5, 1, 0), NONE);
        Due.due("wait 2", x.worst(5, 2, 0), 512);
        Due.due("wait 3", x.worst(9, 3, 0), 768);
        Due.due("wait 4", x.worst(13, 4, 0), 1024);
        x = hearingOneOfTwo(0, 7);
        Due.due("129 is the one of two", x.worst(60, 0, 2), 129);
        x = hearingOneOfTwo(6, 7);
        Due.due("192 is the one of two", x.worst(60, 0, 2), 192);
        // three words, each of which does harm if it is lost
        x = Due.followers(2, "slow 4 when heard above 0");
        x.push(0, -4);
        x.push(1, -4);
        x.push(2, -4);
        Due.due("as a number the least: that of tick 0 alone", x.worst(20, 0, 2), 1);
        x.lose(1);
        x.set(2, 3);
        Due.due("whatever was told", x.worst(20, 0, 2), 1);
        // the word of tick 7 alone does harm: 128 comes behind all pairs of lesser words, which do none
        Due.due("128", hearing(7).worst(99, 4, 2), 128);
        Due.due("128 with one loss", hearing(7).worst(99, 4, 1), 128);
        // two words of 1, of which one is enough, and one of 4, which is needed: 3 is less than 32, though it is of more words
        x = Due.followers(2, "slow 4 when heard above 3;slow 2 when heard above 0 and speed above 18");
        x.push(0, -1);
        x.push(1, -1);
        x.push(5, -4);
        Due.due("two words of the least ticks", x.worst(30, 0, 2), 3);
        Due.due("one word alone", x.worst(30, 0, 1), 32);
    }

    private static void sparingOf() {
        Doc.says("SPARING: words LOST each of which, if it alone were not, there would be no TOUCH.");
        CartRows x = hearingOneOfTwo(0, 1);
        x.set(0, 60);
        x.lose(0b11);
        Due.due("each of both", x.sparing(), 0b11);
        x.lose(0b111);
        Due.due("not the third, of which none heeds", x.sparing(), 0b11);
        x = hearing(5);
        x.push(9, -4);
        x.set(0, 20);
        x.lose(1 << 5 | 1 << 9);
        Due.due("one of them is not enough", x.sparing(), 0);
        x.lose(1 << 5);
        Due.due("one is", x.sparing(), 1 << 5);
        x.lose(1 << 9);
        Due.due("the other is", x.sparing(), 1 << 9);
        x = hearing(30);
        x.set(0, 8);
        x.lose(1 << 30);
        Due.due("the last that is heard", x.touch(0) == 31 ? x.sparing() : LEAST, 1 << 30);
        x = hearing(31);
        x.set(0, 4);
        x.lose(1 << 31);
        Due.due("that of tick 31 comes too late for all", x.touch(0) == 31 ? x.sparing() : LEAST, 0);
    }

    private static void safe() {
        Doc.says("Whether a GAP (1 .. 99) is SAFE with WAITS 0 .. w and l LOSSES: 1, 0. OUTSIDE.");
        CartRows x = hearing(0);
        for (int gap : new int[] {0, -1, 100, LEAST, GREATEST}) {
            Due.due("safe of " + gap, x.safe(gap, 0, 0), OUTSIDE);
        }
        for (int[] no : NO_CHANCES) {
            Due.due("safe with " + no[0] + ", " + no[1], x.safe(10, no[0], no[1]), OUTSIDE);
        }
        Due.due("the least gap", x.safe(1, 0, 0), 0);
        Due.due("the greatest gap", x.safe(99, 4, 0), 1);
        Due.due("with all losses", x.safe(99, 4, 2), 0);
        Due.due("nothing was set", x.set(0, 1), 10);
    }

    private static void need() {
        Doc.says("LEAST GAP with WAITS 0 .. w and l LOSSES; NONE. OUTSIDE.");
        CartRows x = hearing(0);
        for (int[] no : NO_CHANCES) {
            Due.due("need with " + no[0] + ", " + no[1], x.need(no[0], no[1]), OUTSIDE);
        }
        int[] needed = {5, 5, 9, 13, 17};
        for (int w = 0; w <= 4; w++) {
            Due.due("waits to " + w, x.need(w, 0), needed[w]);
            Due.due("with a loss", x.need(w, 1), NONE);
            Due.due("with two", x.need(w, 2), NONE);
        }
        x = hearingOneOfTwo(0, 1);
        Due.due("two pushes, no loss", x.need(0, 0), 5);
        Due.due("two pushes, a loss", x.need(0, 1), 13);
        Due.due("two pushes, two losses", x.need(0, 2), NONE);
        Due.due("nothing was set", x.set(0, 1), 10);
    }

    private static void worst() {
        Doc.says("WORST of a GAP with WAITS 0 .. w and l LOSSES: 256 WAIT and LOST; NONE. OUTSIDE.");
        CartRows x = hearing(0);
        for (int gap : new int[] {0, -1, 100, LEAST, GREATEST}) {
            Due.due("worst of " + gap, x.worst(gap, 0, 0), OUTSIDE);
        }
        for (int[] no : NO_CHANCES) {
            Due.due("worst with " + no[0] + ", " + no[1], x.worst(10, no[0], no[1]), OUTSIDE);
        }
        Due.due("the least gap", x.worst(1, 4, 2), 0);
        Due.due("the greatest gap", x.worst(99, 4, 2), 1);
        Due.due("none", x.worst(99, 4, 0), NONE);
        // a word behind that of tick 7 makes it touch by waits alone; with wait 4 a loss does not matter
        x = hearing(8);
        Due.due("256 times 4", x.worst(16, 4, 2), 1024);
        Due.due("256 times 3", x.worst(12, 4, 2), 768);
        // the first of two words lost costs 36 of the gap, and 44 with wait 2
        x = hearingOneOfTwo(0, 7);
        Due.due("a loss alone", x.worst(44, 1, 1), NONE);
        Due.due("a wait alone", x.worst(44, 2, 0), NONE);
        Due.due("wait and loss", x.worst(44, 2, 1), 512 + 1);
        Due.due("no less a gap is enough", x.worst(45, 2, 1), NONE);
        Due.due("nothing was set", x.set(2, 1), 1);
    }

    private static void sparing() {
        Doc.says("SPARING, by bits (of those LOST as told); 0: none, or none TOUCH.");
        CartRows x = hearing(0);
        x.set(0, 99);
        Due.due("none lost, none touch", x.sparing(), 0);
        x.lose(2);
        Due.due("one lost, none touch", x.sparing(), 0);
        x.lose(1);
        Due.due("one lost, and it", x.sparing(), 1);
        x.lose(-1);
        Due.due("all lost, and it alone", x.sparing(), 1);
        x.lose(-2);
        Due.due("all but that", x.sparing(), 0);
        x.lose(0);
        x.set(0, 1);
        Due.due("none lost, though they touch", x.sparing(), 0);
        x.lose(1);
        Due.due("lost, but nothing spares them", x.sparing(), 0);
        Due.due("lost as told", x.at(1, 1, 5), 99);
        Due.due("and no other", x.at(1, 2, 5), 1);
        Due.due("one alone", new CartRows().sparing(), 0);
        // words beyond tick 7 are told as any others
        x = hearing(20);
        x.set(0, 20);
        x.lose(1 << 20 | 1 << 31);
        Due.due("that of tick 20", x.sparing(), 1 << 20);
        x.set(2, 4);
        Due.due("by the wait as told: 4 times 4 are lost", x.sparing(), 1 << 20);
        x.set(0, 16);
        Due.due("which is too much", x.sparing(), 0);
    }
}
