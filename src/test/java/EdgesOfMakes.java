/** Edges of a new object, of MAKES and of counts: promises 1, 2 and 36. */
final class EdgesOfMakes {
    private static final int UNKNOWN = CartRows.UNKNOWN, OUTSIDE = CartRows.OUTSIDE;
    private static final int LEAST = Integer.MIN_VALUE, GREATEST = Integer.MAX_VALUE;

    private EdgesOfMakes() {
    }

    static void check() {
        makesAreFour();
        weight();
        brake();
        pull();
        foot();
        atFirst();
        noTableAtFirst();
        newObject();
        lastCall();
        make();
        count();
    }

    /** One lorry of a make that brakes as it can in tick 0 and pulls as it can in tick 1. */
    private static CartRows alone(int make) {
        CartRows x = new CartRows();
        x.row(make, 1);
        x.push(0, -9);
        x.push(1, 5);
        return x;
    }

    private static void makeIs(String what, CartRows x, int weight, int brake, int pull, int foot) {
        Due.due(what + ": weight", x.bears(0, 2000), weight);
        Due.due(what + ": brake", x.at(0, 0, 3), -brake);
        Due.due(what + ": pull", x.at(0, 1, 3), pull);
        for (int tick = 0; tick < 5; tick++) {
            int speed = tick < foot ? 20 : tick == foot ? 20 - brake : 20 - brake + pull;
            Due.due(what + ": speed behind tick " + tick, x.at(0, tick, 0), speed);
        }
    }

    private static void makesAreFour() {
        Doc.says("MAKES are 0 ..");
        for (int make = 0; make < 4; make++) {
            CartRows x = alone(make);
            Due.due("make " + make, x.make(make, 10 + make, 5, 3, 1), 1);
            makeIs("make " + make, x, 10 + make, 5, 3, 1);
        }
        for (int make : new int[] {-1, 4, LEAST, GREATEST}) {
            CartRows x = alone(3);
            Due.due("make " + make, x.make(make, 10, 5, 3, 1), UNKNOWN);
            Due.due("table of make " + make, x.table(make), UNKNOWN);
            Due.due("journey of make " + make, x.journey(0, 1, 0, 0, make), UNKNOWN);
            makeIs("the last make behind make " + make, x, 1, 4, 2, 0);
        }
    }

    private static void weight() {
        Doc.says("3: WEIGHT (1 .. 40)");
        for (int weight : new int[] {1, 2, 39, 40}) {
            CartRows x = alone(2);
            Due.due("weight " + weight, x.make(2, weight, 4, 2, 0), 1);
            makeIs("weight " + weight, x, weight, 4, 2, 0);
        }
        for (int weight : new int[] {0, -1, 41, LEAST, GREATEST}) {
            refused(weight, 4, 2, 0);
        }
    }

    private static void brake() {
        Doc.says("BRAKE (1 .. 9)");
        for (int brake : new int[] {1, 2, 8, 9}) {
            CartRows x = alone(2);
            Due.due("brake " + brake, x.make(2, 7, brake, 2, 0), 1);
            makeIs("brake " + brake, x, 7, brake, 2, 0);
        }
        for (int brake : new int[] {0, -1, 10, LEAST, GREATEST}) {
            refused(9, brake, 2, 0);
        }
    }

    private static void pull() {
        Doc.says("PULL (1 .. 5)");
        for (int pull : new int[] {1, 2, 4, 5}) {
            CartRows x = alone(2);
            Due.due("pull " + pull, x.make(2, 7, 4, pull, 0), 1);
            makeIs("pull " + pull, x, 7, 4, pull, 0);
        }
        for (int pull : new int[] {0, -1, 6, LEAST, GREATEST}) {
            refused(9, 4, pull, 0);
        }
    }

    private static void foot() {
        Doc.says("FOOT (0 .. 3)");
        for (int foot = 0; foot <= 3; foot++) {
            CartRows x = alone(2);
            Due.due("foot " + foot, x.make(2, 7, 4, 2, foot), 1);
            makeIs("foot " + foot, x, 7, 4, 2, foot);
        }
        for (int foot : new int[] {-1, 4, LEAST, GREATEST}) {
            refused(9, 4, 2, foot);
        }
    }

    private static void refused(int weight, int brake, int pull, int foot) {
        CartRows x = alone(2);
        x.make(2, 33, 6, 3, 2);
        String call = "make(2, " + weight + ", " + brake + ", " + pull + ", " + foot + ")";
        Due.due(call, x.make(2, weight, brake, pull, foot), OUTSIDE);
        makeIs("behind " + call, x, 33, 6, 3, 2);
    }

    private static void atFirst() {
        Doc.says("(1, 4, 2, 0 at first)");
        for (int make = 0; make < 4; make++) {
            makeIs("make " + make + " at first", alone(make), 1, 4, 2, 0);
        }
    }

    private static void noTableAtFirst() {
        Doc.says("and a TABLE (none at first).");
        for (int make = 0; make < 4; make++) {
            CartRows x = new CartRows();
            x.row(make << 2, 2);
            x.push(0, -4);
            for (int tick = 0; tick < 32; tick++) {
                Due.due("without a table", x.at(1, tick, 3), 0);
            }
            Due.due("it goes on as it is", x.at(1, 31, 2), 290 + 32 * 20);
        }
    }

    private static void newObject() {
        Doc.says("One LORRY of make 0, nothing told.");
        CartRows x = new CartRows();
        int[] counts = {1, 0, 0, 0, 0, 0, 0};
        for (int what = 0; what < counts.length; what++) {
            Due.due("count " + what, x.count(what), counts[what]);
        }
        Due.due("no second lorry", x.at(1, 0, 0), LEAST);
        x.make(1, 2, 1, 1, 0);
        x.make(2, 3, 1, 1, 0);
        x.make(3, 4, 1, 1, 0);
        Due.due("it is of make 0", x.bears(0, 2000), 1);
        Due.due("none touch", x.touch(0), -1);
        Due.due("none comes upon another", x.touch(1), -1);
        Due.due("no dip", x.dip(0), 0);
        Due.due("nothing grows", x.grows(), 0);
        Due.due("the least gap", x.need(4, 2), 1);
        Due.due("nothing spares", x.sparing(), 0);
        Due.due("no text", x.fault(), 0);
        Due.due("nothing to erase", x.erase(), 0);
        Due.due("no table to make", x.table(0), CartRows.NOT);
        Due.due("no pushes", x.calm(), 0);
        Due.due("no journeys", x.clear(), 0);
        Due.due("nothing burnt", x.best(-1), 0);
        Due.due("nothing spared", x.together(63), 0);
        Due.due("they agree", x.agree(), 1);
        Due.due("no event", x.span(0, 0), LEAST);
        CartRows y = new CartRows();
        y.make(0, 40, 9, 5, 3);
        Due.due("one object is nothing to another", x.bears(0, 2000), 1);
    }

    private static void lastCall() {
        Doc.says("An object is used for at most 512 calls after it has been made; what later calls answer is free.");
        CartRows x = new CartRows();
        x.row(0, 2);
        x.push(0, -4);
        for (int round = 0; round < 254; round++) {
            x.make(round % 4, 1 + round % 40, 4, 2, 0);
            x.need(4, 2);
        }
        Due.due("call 511", x.touch(0), 2);
        Due.due("call 512", x.at(1, 31, 1), 10 - 32 * 4);
    }

    private static void make() {
        Doc.says("A MAKE: WEIGHT, BRAKE, PULL, FOOT: 1. UNKNOWN; OUTSIDE.");
        CartRows x = alone(1);
        Due.due("all least", x.make(1, 1, 1, 1, 0), 1);
        makeIs("all least", x, 1, 1, 1, 0);
        Due.due("all greatest", x.make(1, 40, 9, 5, 3), 1);
        makeIs("all greatest", x, 40, 9, 5, 3);
        Due.due("another make", x.make(2, 3, 3, 3, 1), 1);
        makeIs("another make is nothing to it", x, 40, 9, 5, 3);
        Due.due("unknown ahead of outside", x.make(4, 41, 10, 6, 4), UNKNOWN);
        Due.due("unknown ahead of outside, below", x.make(-1, 0, 0, 0, -1), UNKNOWN);
        Due.due("all too great", x.make(1, 41, 10, 6, 4), OUTSIDE);
        Due.due("all too little", x.make(1, 0, 0, 0, -1), OUTSIDE);
        makeIs("nothing changed", x, 40, 9, 5, 3);
    }

    private static void count() {
        Doc.says("0 LORRIES, 1 PUSHES, 2 HILLS, 3 JOURNEYS, 4 EVENTS, 5 AFTERS, 6 bytes of THE TEXT. OUTSIDE.");
        CartRows x = new CartRows();
        for (int what : new int[] {-1, 7, LEAST, GREATEST}) {
            Due.due("count " + what, x.count(what), OUTSIDE);
        }
        x.row(0, 6);
        for (int i = 0; i < 9; i++) {
            x.push(i, -1);
            x.hill(i, i, 0, 0);
            x.journey(0, 1, i, i, 0);
        }
        for (int i = 0; i < 13; i++) {
            x.event(0, i);
        }
        for (int i = 0; i < 13; i++) {
            x.after(0, 1, 0);
        }
        for (int i = 0; i < 21; i++) {
            x.write(0, 8);
        }
        int[] full = {6, 8, 2, 5, 12, 12, 160};
        for (int what = 0; what < full.length; what++) {
            Due.due("count of the full " + what, x.count(what), full[what]);
        }
        x.row(0, 1);
        x.calm();
        x.clear();
        x.erase();
        int[] emptied = {1, 0, 2, 0, 12, 12, 0};
        for (int what = 0; what < emptied.length; what++) {
            Due.due("count of the emptied " + what, x.count(what), emptied[what]);
        }
    }
}
