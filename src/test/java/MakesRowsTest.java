/** Promises 1, 2, 7 to 13 and 36: what is told, what is refused, and what a refusal leaves alone. */
public final class MakesRowsTest {
    private static final int UNKNOWN = CartRows.UNKNOWN, OUTSIDE = CartRows.OUTSIDE, FULL = CartRows.FULL;

    public static void main(String[] args) {
        newObject();
        make();
        refusedMakeChangesNothing();
        row();
        set();
        push();
        calm();
        lose();
        hill();
        stranger();
        count();
        Due.end();
    }

    private static void newObject() {
        CartRows x = new CartRows();
        int[] counts = {1, 0, 0, 0, 0, 0, 0};
        for (int what = 0; what < counts.length; what++) {
            Due.due("new count " + what, x.count(what), counts[what]);
        }
        Due.due("new lorry's weight", x.bears(320, 320), 1);
        Due.due("new lorry's place", x.at(0, 0, 2), 320);
        Due.due("new gap", x.set(0, 1), 10);
        Due.due("new speed", x.set(1, 1), 20);
        Due.due("new wait", x.set(2, 0), 1);
        Due.due("new spare", x.set(3, 0), 2);
        Due.due("new late", x.set(4, 0), 1);
        Due.due("new clock", x.clock(5, 1), 0);
        Due.due("new spared", x.spared(5, 4, 1), 0);
        // the makes at first: weight 1, brake 4, pull 2, foot 0, no table
        x = new CartRows();
        x.row(0xffff, 2);
        x.push(0, -9);
        x.push(1, 5);
        Due.due("brake at first", x.at(0, 0, 3), -4);
        Due.due("foot at first", x.at(0, 0, 0), 16);
        Due.due("pull at first", x.at(0, 1, 3), 2);
        Due.due("no table at first", x.at(1, 0, 3), 0);
        Due.due("no table later", x.at(1, 31, 0), 20);
        Due.due("weights at first", x.bears(0, 2000), 2);
    }

    private static void make() {
        CartRows x = new CartRows();
        Due.due("make", x.make(3, 40, 9, 5, 3), 1);
        Due.due("make least", x.make(0, 1, 1, 1, 0), 1);
        Due.due("make -1", x.make(-1, 1, 1, 1, 0), UNKNOWN);
        Due.due("make 4", x.make(4, 1, 1, 1, 0), UNKNOWN);
        Due.due("make 4, weight 0", x.make(4, 0, 1, 1, 0), UNKNOWN);
        int[][] wrong = {{0, 1, 1, 0}, {41, 1, 1, 0}, {1, 0, 1, 0}, {1, 10, 1, 0}, {1, 1, 0, 0}, {1, 1, 6, 0},
            {1, 1, 1, -1}, {1, 1, 1, 4}, {Integer.MIN_VALUE, 1, 1, 1}, {1, 1, 1, Integer.MAX_VALUE}};
        for (int[] w : wrong) {
            Due.due("make " + java.util.Arrays.toString(w), x.make(1, w[0], w[1], w[2], w[3]), OUTSIDE);
        }
        x.row(3, 1);
        x.push(0, -9);
        x.push(1, 5);
        Due.due("weight told", x.bears(0, 2000), 40);
        Due.due("brake told", x.at(0, 0, 3), -9);
        Due.due("pull told", x.at(0, 1, 3), 5);
        Due.due("foot told, before", x.at(0, 2, 0), 20);
        Due.due("foot told, then", x.at(0, 3, 0), 11);
        Due.due("foot told, last", x.at(0, 4, 0), 16);
        x.make(3, 40, 1, 1, 0);
        Due.due("a make told again counts at once", x.at(0, 0, 3), -1);
    }

    private static void refusedMakeChangesNothing() {
        CartRows x = new CartRows();
        x.make(0, 7, 3, 1, 1);
        x.make(0, 9, 9, 5, 4);
        x.make(0, 9, 9, 6, 0);
        x.push(0, -9);
        Due.due("weight kept", x.bears(0, 2000), 7);
        Due.due("brake kept", x.at(0, 0, 3), -3);
        Due.due("foot kept", x.at(0, 0, 0), 20);
    }

    private static void row() {
        CartRows x = new CartRows();
        for (int make = 0; make < 4; make++) {
            x.make(make, 1 + 10 * make, 1, 1, 0);
        }
        Due.due("row of 6", x.row(0b11_10_01_00_11_10, 6), 1);
        Due.due("six", x.count(0), 6);
        Due.due("makes of all", x.bears(0, 2000), 21 + 31 + 1 + 11 + 21 + 31);
        Due.due("first's make", x.bears(320, 320), 21);
        Due.due("row of 0", x.row(0, 0), OUTSIDE);
        Due.due("row of 7", x.row(0, 7), OUTSIDE);
        Due.due("row of -1", x.row(0, -1), OUTSIDE);
        Due.due("still six", x.count(0), 6);
        Due.due("makes kept", x.bears(0, 2000), 116);
        Due.due("row, bits above are nothing", x.row(-1 << 2 | 1, 1), 1);
        Due.due("one", x.count(0), 1);
        Due.due("make 1", x.bears(0, 2000), 11);
        Due.due("row of all bits", x.row(-1, 6), 1);
        Due.due("all of make 3", x.bears(0, 2000), 6 * 31);
    }

    private static void set() {
        CartRows x = new CartRows();
        int[] first = {10, 20, 1, 2, 1};
        int[] least = {1, 0, 0, 0, 0};
        int[] most = {99, 40, 4, 9, 9};
        for (int what = 0; what < 5; what++) {
            Due.due("set most " + what, x.set(what, most[what]), first[what]);
            Due.due("set too much " + what, x.set(what, most[what] + 1), OUTSIDE);
            Due.due("set too little " + what, x.set(what, least[what] - 1), OUTSIDE);
            Due.due("set least " + what, x.set(what, least[what]), most[what]);
            Due.due("set again " + what, x.set(what, most[what]), least[what]);
        }
        Due.due("set -1", x.set(-1, 1), OUTSIDE);
        Due.due("set 5", x.set(5, 1), OUTSIDE);
        x.row(0, 2);
        Due.due("gap told", x.at(1, 0, 1), 99);
        Due.due("speed told", x.at(1, 0, 0), 40);
    }

    private static void push() {
        CartRows x = new CartRows();
        x.make(0, 1, 9, 5, 0);
        Due.due("push first", x.push(0, -9), 1);
        Due.due("push last", x.push(31, 5), 2);
        Due.due("push 0", x.push(0, 0), 3);
        Due.due("of several of a tick the last", x.at(0, 0, 3), 0);
        Due.due("push tick -1", x.push(-1, 0), OUTSIDE);
        Due.due("push tick 32", x.push(32, 0), OUTSIDE);
        Due.due("push -10", x.push(0, -10), OUTSIDE);
        Due.due("push 6", x.push(0, 6), OUTSIDE);
        for (int i = 4; i <= 8; i++) {
            Due.due("push " + i, x.push(0, i - 4), i);
        }
        Due.due("push, full", x.push(0, -1), FULL);
        Due.due("push, outside ahead of full", x.push(0, 6), OUTSIDE);
        Due.due("pushes", x.count(1), 8);
        Due.due("the eighth holds", x.at(0, 0, 3), 4);
        Due.due("that of tick 31", x.at(0, 31, 3), 5);
        Due.due("that of tick 31 is done in it", x.at(0, 31, 0), 29);
    }

    private static void calm() {
        CartRows x = new CartRows();
        x.push(3, -2);
        x.push(3, -1);
        Due.due("calm", x.calm(), 2);
        Due.due("calm again", x.calm(), 0);
        Due.due("no pushes", x.count(1), 0);
        Due.due("no wish", x.at(0, 3, 3), 0);
        Due.due("push anew", x.push(4, 1), 1);
        Due.due("the old one is gone", x.at(0, 3, 3), 0);
    }

    private static void lose() {
        CartRows x = new CartRows();
        x.row(0, 2);
        x.push(2, -3);
        Due.due("heard", x.at(1, 3, 4), 3);
        Due.due("lose", x.lose(1 << 2), 1);
        Due.due("lost", x.at(1, 3, 4), 0);
        Due.due("lost, old is of tick 1", x.at(1, 3, 5), 2);
        Due.due("lose all", x.lose(-1), 1);
        Due.due("nothing heard", x.at(1, 31, 5), 99);
        Due.due("lose 31 alone", x.lose(Integer.MIN_VALUE), 1);
        Due.due("heard again", x.at(1, 3, 4), 3);
        Due.due("lose none", x.lose(0), 1);
        Due.due("last heard", x.at(1, 31, 5), 1);
    }

    private static void hill() {
        CartRows x = new CartRows();
        Due.due("hill, to less", x.hill(301, 300, 0, 5), OUTSIDE);
        Due.due("hill -1", x.hill(-1, 300, 0, 5), OUTSIDE);
        Due.due("hill 2001", x.hill(300, 2001, 0, 5), OUTSIDE);
        Due.due("hill weight -1", x.hill(300, 300, -1, 5), OUTSIDE);
        Due.due("hill weight 41", x.hill(300, 300, 41, 5), OUTSIDE);
        Due.due("hill slope -1", x.hill(300, 300, 0, -1), OUTSIDE);
        Due.due("hill slope 41", x.hill(300, 300, 0, 41), OUTSIDE);
        Due.due("no hill", x.count(2), 0);
        Due.due("no hill holds", x.at(0, 0, 0), 20);
        Due.due("hill of one place", x.hill(300, 300, 0, 5), 1);
        Due.due("hill at the first place", x.at(0, 0, 0), 5);
        Due.due("it stays so slow behind it", x.at(0, 1, 0), 5);
        Due.due("hill of all", x.hill(0, 2000, 40, 40), 2);
        Due.due("hill, full", x.hill(0, 0, 0, 0), FULL);
        Due.due("hill, outside ahead of full", x.hill(0, 0, 0, 41), OUTSIDE);
        Due.due("two hills", x.count(2), 2);
        Due.due("hills do not hold what is no heavier", onHill(10, 10), 20);
        Due.due("hills hold what is heavier", onHill(10, 11), 0);
    }

    private static int onHill(int above, int weight) {
        CartRows x = new CartRows();
        x.make(0, weight, 4, 2, 0);
        x.hill(300, 310, above, 0);
        return x.at(0, 0, 0);
    }

    private static void stranger() {
        CartRows x = new CartRows();
        Due.due("stranger, one lorry", x.stranger(1, 0, 0, 0), UNKNOWN);
        x.row(0, 3);
        Due.due("stranger of the first", x.stranger(0, 0, 0, 0), UNKNOWN);
        Due.due("stranger of -1", x.stranger(-1, 0, 0, 0), UNKNOWN);
        Due.due("stranger of 3", x.stranger(3, 0, 0, 0), UNKNOWN);
        Due.due("stranger of 3, outside too", x.stranger(3, 5, 4, 41), UNKNOWN);
        Due.due("stranger, to less", x.stranger(1, 5, 4, 10), OUTSIDE);
        Due.due("stranger from -1", x.stranger(1, -1, 4, 10), OUTSIDE);
        Due.due("stranger to 32", x.stranger(1, 5, 32, 10), OUTSIDE);
        Due.due("stranger speed -1", x.stranger(1, 5, 6, -1), OUTSIDE);
        Due.due("stranger speed 41", x.stranger(1, 5, 6, 41), OUTSIDE);
        Due.due("none came", x.touch(0), -1);
        Due.due("stranger", x.stranger(2, 0, 31, 0), 1);
        Due.due("it is touched", x.touch(0), 0);
        Due.due("by lorry 2", x.touch(1), 2);
        x.row(0, 2);
        Due.due("no such lorry, not there", x.touch(0), -1);
        x.row(0, 6);
        Due.due("there again", x.touch(1), 2);
        Due.due("another one", x.stranger(1, 31, 31, 0), 1);
        Due.due("it comes last", x.touch(0), 31);
        Due.due("upon it comes lorry 1", x.touch(1), 1);
        Due.due("refused, nothing changes", x.stranger(1, 31, 30, 0), OUTSIDE);
        Due.due("as before", x.touch(0), 31);
    }

    private static void count() {
        CartRows x = new CartRows();
        Due.due("count -1", x.count(-1), OUTSIDE);
        Due.due("count 7", x.count(7), OUTSIDE);
        x.row(0, 5);
        x.push(0, 1);
        x.push(0, 1);
        x.hill(0, 0, 0, 0);
        for (int i = 0; i < 3; i++) {
            x.journey(0, 1, 0, 0, 0);
        }
        for (int i = 0; i < 4; i++) {
            x.event(0, 0);
        }
        for (int i = 0; i < 6; i++) {
            x.after(0, 1, 0);
        }
        x.write(0, 7);
        int[] counts = {5, 2, 1, 3, 4, 6, 7};
        for (int what = 0; what < counts.length; what++) {
            Due.due("count " + what, x.count(what), counts[what]);
        }
    }
}
