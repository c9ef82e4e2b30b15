/** Promises 28 to 30: what persons are SPARED, and how it is shared. */
public final class SharesTest {
    private static final int UNKNOWN = CartRows.UNKNOWN, OUTSIDE = CartRows.OUTSIDE;

    public static void main(String[] args) {
        spared();
        together();
        shareRefusals();
        sharesByHand();
        coins();
        Due.end();
    }

    private static void spared() {
        CartRows x = new CartRows();
        int[][] unknown = {{-1, 0}, {6, 0}, {0, -1}, {0, 6}, {3, 3}, {Integer.MAX_VALUE, 0}};
        for (int[] u : unknown) {
            Due.due("spared, unknown", x.spared(u[0], u[1], 1), UNKNOWN);
            Due.due("spared, unknown ahead of outside", x.spared(u[0], u[1], 100), UNKNOWN);
        }
        Due.due("spared -1", x.spared(0, 1, -1), OUTSIDE);
        Due.due("spared 100", x.spared(0, 1, 100), OUTSIDE);
        Due.due("spared 99", x.spared(0, 1, 99), 0);
        Due.due("that which it was", x.spared(0, 1, 98), 99);
        Due.due("refused", x.spared(0, 1, 100), OUTSIDE);
        Due.due("kept", x.spared(0, 1, 0), 98);
        Due.due("the other way is another", x.spared(1, 0, 5), 0);
    }

    private static void together() {
        CartRows x = new CartRows();
        for (int person = 0; person < 6; person++) {
            for (int ahead = 0; ahead < 6; ahead++) {
                x.spared(person, ahead, 10 * person + ahead);
            }
        }
        Due.due("together -1", x.together(-1), OUTSIDE);
        Due.due("together 64", x.together(64), OUTSIDE);
        Due.due("none", x.together(0), 0);
        for (int person = 0; person < 6; person++) {
            Due.due("one alone", x.together(1 << person), 0);
        }
        Due.due("0 and 5", x.together(33), 50);
        Due.due("1, 3, 4", x.together(0b011010), 31 + 43);
        Due.due("all", x.together(63), 10 + 21 + 32 + 43 + 54);
    }

    private static void shareRefusals() {
        CartRows x = new CartRows();
        Due.due("person not below n", x.share(3, 3, 0), UNKNOWN);
        Due.due("person -1", x.share(-1, 3, 0), UNKNOWN);
        Due.due("person 6", x.share(6, 6, 2), UNKNOWN);
        Due.due("unknown ahead of outside", x.share(3, 3, 3), UNKNOWN);
        // no such person, whatever n and part are
        for (int nobody : new int[] {-1, 6, Integer.MIN_VALUE, Integer.MAX_VALUE}) {
            for (int n : new int[] {Integer.MIN_VALUE, -1, 0, 1, 3, 6, 7, Integer.MAX_VALUE}) {
                Due.due("nobody " + nobody + " of " + n, x.share(nobody, n, 0), UNKNOWN);
                Due.due("nobody " + nobody + " of " + n + ", part 3", x.share(nobody, n, 3), UNKNOWN);
            }
        }
        // a person that there is: of no n it is n that is wrong
        for (int person = 0; person < 6; person++) {
            for (int n : new int[] {Integer.MIN_VALUE, -1, 0, 7, Integer.MAX_VALUE}) {
                Due.due("person " + person + " of " + n, x.share(person, n, 0), OUTSIDE);
            }
        }
        Due.due("n 0", x.share(0, 0, 0), OUTSIDE);
        Due.due("n 7", x.share(0, 7, 0), OUTSIDE);
        Due.due("n -1", x.share(0, -1, 0), OUTSIDE);
        Due.due("part -1", x.share(0, 3, -1), OUTSIDE);
        Due.due("part 3", x.share(0, 3, 3), OUTSIDE);
        Due.due("one alone, above", x.share(0, 1, 0), 0);
        Due.due("one alone, below", x.share(0, 1, 1), 1);
        Due.due("one alone, coins", x.share(0, 1, 2), 0);
    }

    private static void shareIs(CartRows x, int person, int n, int above, int below) {
        Due.due("above, " + person + " of " + n, x.share(person, n, 0), above);
        Due.due("below, " + person + " of " + n, x.share(person, n, 1), below);
    }

    private static void sharesByHand() {
        CartRows x = new CartRows();
        x.spared(1, 0, 7);
        shareIs(x, 0, 2, 7, 2);
        shareIs(x, 1, 2, 7, 2);
        // person 2 comes between none: it gains nothing ahead of or behind the two
        shareIs(x, 2, 3, 0, 1);
        shareIs(x, 0, 3, 7, 2);
        x = new CartRows();
        x.spared(2, 0, 6);
        // what 0 and 2 gain is lost when 1 comes between: 6 to 0 or 2, and -6 to 1, by half and thirds
        shareIs(x, 0, 3, 1, 1);
        shareIs(x, 1, 3, -2, 1);
        shareIs(x, 2, 3, 1, 1);
        x.spared(2, 0, 1);
        shareIs(x, 0, 3, 1, 6);
        shareIs(x, 1, 3, -1, 3);
        x = new CartRows();
        for (int person = 1; person < 6; person++) {
            x.spared(person, person - 1, 60);
        }
        shareIs(x, 0, 6, 30, 1);
        shareIs(x, 3, 6, 60, 1);
        shareIs(x, 5, 6, 30, 1);
        x.spared(0, 5, 99);
        shareIs(x, 0, 6, 30, 1);
    }

    private static void coins() {
        CartRows x = new CartRows();
        x.spared(1, 0, 7);
        Due.due("of two the least gets it", x.share(0, 2, 2), 4);
        Due.due("the other not", x.share(1, 2, 2), 3);
        Due.due("nothing for nothing", x.share(2, 3, 2), 0);
        x = new CartRows();
        x.spared(2, 0, 1);
        // 1/6, -1/3, 1/6 are cut to 0, -1, 0; of -1/3 the most, 2/3, was cut off
        Due.due("coins 0", x.share(0, 3, 2), 0);
        Due.due("coins 1", x.share(1, 3, 2), 0);
        Due.due("coins 2", x.share(2, 3, 2), 0);
        x.spared(2, 0, 2);
        // 1/3, -2/3, 1/3 are cut to 0, -1, 0; the one that is left goes to the least
        Due.due("coins 0 of 2", x.share(0, 3, 2), 1);
        Due.due("coins 1 of 2", x.share(1, 3, 2), -1);
        Due.due("coins 2 of 2", x.share(2, 3, 2), 0);
        for (int seed = 1; seed < 60; seed++) {
            coinsSum(seed);
        }
    }

    private static void coinsSum(int seed) {
        CartRows x = new CartRows();
        java.util.Random random = new java.util.Random(seed);
        for (int person = 0; person < 6; person++) {
            for (int ahead = 0; ahead < person; ahead++) {
                x.spared(person, ahead, random.nextInt(100));
            }
        }
        for (int n = 1; n <= 6; n++) {
            int sum = 0;
            for (int person = 0; person < n; person++) {
                sum += x.share(person, n, 2);
            }
            Due.due("coins sum", sum, x.together((1 << n) - 1));
        }
    }
}
