/** Promises 24 to 27: JOURNEYS, the BEST of their HOURS, and what HOURS cost. */
public final class JourneysTest {
    private static final int NONE = CartRows.NONE, UNKNOWN = CartRows.UNKNOWN, OUTSIDE = CartRows.OUTSIDE,
        FULL = CartRows.FULL;

    public static void main(String[] args) {
        refusals();
        full();
        clear();
        bestOfOne();
        rowsOfSome();
        burntIsOneAtLeast();
        severalAreBest();
        waitingCosts();
        judge();
        weightsAreTheMakes();
        Due.end();
    }

    private static void refusals() {
        CartRows x = new CartRows();
        int[][] unknown = {{-1, 1, 0, 0, 0}, {0, 0, 0, 0, 0}, {5, 4, 0, 0, 0}, {9, 10, 0, 0, 0}, {0, 10, 0, 0, 0},
            {0, 1, 0, 0, -1}, {0, 1, 0, 0, 4}, {0, 0, 30, 0, 0}, {Integer.MAX_VALUE, 1, 0, 0, 0}, {0, 1, 9, 1, 4}};
        for (int[] u : unknown) {
            Due.due("unknown " + java.util.Arrays.toString(u), x.journey(u[0], u[1], u[2], u[3], u[4]), UNKNOWN);
        }
        int[][] outside = {{-1, 0}, {0, -1}, {0, 6}, {5, 4}, {23, 24}, {24, 24}, {20, 26},
            {Integer.MAX_VALUE, Integer.MAX_VALUE}, {Integer.MIN_VALUE, 3}};
        for (int[] o : outside) {
            Due.due("outside " + java.util.Arrays.toString(o), x.journey(0, 1, o[0], o[1], 0), OUTSIDE);
        }
        Due.due("none", x.count(3), 0);
        Due.due("5 apart", x.journey(0, 9, 18, 23, 3), 0);
        Due.due("0 apart", x.journey(8, 9, 23, 23, 0), 1);
        Due.due("best -2", x.best(-2), OUTSIDE);
        Due.due("best least int", x.best(Integer.MIN_VALUE), OUTSIDE);
        Due.due("best 2", x.best(2), NONE);
        Due.due("best greatest int", x.best(Integer.MAX_VALUE), NONE);
    }

    private static void full() {
        CartRows x = new CartRows();
        for (int i = 0; i < 5; i++) {
            Due.due("journey " + i, x.journey(i, i + 5, i, i + 5, 0), i);
        }
        Due.due("full", x.journey(0, 1, 0, 0, 0), FULL);
        Due.due("unknown ahead of full", x.journey(0, 0, 0, 0, 0), UNKNOWN);
        Due.due("outside ahead of full", x.journey(0, 1, 0, 9, 0), OUTSIDE);
        Due.due("five", x.count(3), 5);
        Due.due("all of weight 1", x.best(-1), 25);
        for (int i = 0; i < 5; i++) {
            Due.due("hour " + i, x.best(i), i);
        }
    }

    private static void clear() {
        CartRows x = new CartRows();
        Due.due("clear nothing", x.clear(), 0);
        x.journey(0, 1, 0, 0, 0);
        x.journey(0, 1, 0, 0, 0);
        Due.due("clear", x.clear(), 2);
        Due.due("none", x.count(3), 0);
        Due.due("best of none", x.best(-1), 0);
        Due.due("hour of none", x.best(0), NONE);
        Due.due("judge none", x.judge(-1), 0);
        Due.due("numbers begin anew", x.journey(0, 1, 3, 3, 0), 0);
        Due.due("hour", x.best(0), 3);
    }

    private static void bestOfOne() {
        CartRows x = new CartRows();
        x.make(2, 17, 1, 1, 0);
        x.journey(3, 9, 7, 12, 2);
        Due.due("burns its weight each hour", x.best(-1), 6 * 17);
        Due.due("leaves at once", x.best(0), 7);
        x.set(4, 0);
        Due.due("of several the first", x.best(0), 7);
    }

    private static CartRows three() {
        CartRows x = new CartRows();
        x.make(1, 10, 1, 1, 0);
        x.make(2, 20, 1, 1, 0);
        x.make(3, 30, 1, 1, 0);
        x.set(3, 3);
        return x;
    }

    private static void rowsOfSome() {
        CartRows x = three();
        x.journey(0, 2, 0, 0, 1);
        x.journey(0, 2, 0, 0, 3);
        x.journey(0, 2, 0, 0, 2);
        Due.due("the heaviest burns all, each other less", x.judge(0), 2 * (30 + 17 + 7));
        x.clear();
        x.journey(0, 3, 5, 5, 1);
        x.journey(2, 6, 7, 7, 2);
        x.journey(1, 4, 6, 6, 1);
        Due.due("rows by places", x.judge(0), 10 + (10 + 7) + (20 + 7 + 7) + (20 + 7) + 20 + 20);
        x.clear();
        x.journey(0, 3, 5, 5, 1);
        x.journey(3, 6, 8, 8, 1);
        Due.due("who comes does not leave", x.judge(0), 60);
        x.clear();
        x.journey(0, 3, 5, 5, 1);
        x.journey(1, 3, 5, 5, 1);
        Due.due("the same hour of leaving, other places", x.judge(0), 50);
        x.clear();
        x.journey(0, 9, 23, 23, 1);
        x.journey(1, 9, 0, 0, 1);
        Due.due("hours do not begin anew", x.judge(0), 90 + 80);
        x.clear();
        x.journey(0, 1, 5, 5, 1);
        x.journey(0, 1, 5, 5, 1);
        x.journey(0, 1, 5, 5, 1);
        Due.due("of several one alone burns all", x.judge(0), 24);
    }

    private static void burntIsOneAtLeast() {
        CartRows x = new CartRows();
        x.make(1, 5, 1, 1, 0);
        x.set(3, 9);
        x.journey(0, 2, 0, 0, 0);
        x.journey(0, 2, 0, 0, 1);
        x.journey(0, 2, 0, 0, 1);
        Due.due("1 at least", x.judge(0), 2 * (5 + 1 + 1));
        x.set(3, 0);
        Due.due("nothing spared", x.judge(0), 2 * (5 + 5 + 1));
    }

    private static void severalAreBest() {
        CartRows x = three();
        x.set(4, 0);
        x.journey(0, 1, 3, 5, 1);
        x.journey(0, 1, 0, 5, 1);
        Due.due("together", x.best(-1), 17);
        Due.due("as early as the first can", x.best(0), 3);
        Due.due("the other too", x.best(1), 3);
        x.clear();
        x.journey(0, 1, 0, 2, 1);
        x.journey(0, 1, 2, 2, 1);
        Due.due("all at their last hours is tried too", x.best(-1), 17);
        Due.due("the last hour", x.best(0), 2);
        x.clear();
        x.journey(0, 1, 0, 5, 1);
        x.journey(0, 1, 4, 5, 1);
        x.journey(0, 1, 0, 2, 1);
        Due.due("two of three", x.best(-1), 27);
        Due.due("the first as early as may be", x.best(0), 0);
        Due.due("the second too", x.best(1), 4);
        Due.due("the third with the first", x.best(2), 0);
    }

    private static void waitingCosts() {
        CartRows x = three();
        x.set(4, 2);
        x.journey(0, 1, 0, 5, 1);
        x.journey(0, 1, 1, 1, 1);
        Due.due("an hour costs 2 and spares 3", x.best(-1), 19);
        Due.due("it waits", x.best(0), 1);
        x.set(4, 3);
        Due.due("an hour costs 3 and spares 3: first is best", x.best(0), 0);
        Due.due("all together", x.best(-1), 20);
        x.set(4, 9);
        Due.due("too dear", x.best(-1), 20);
    }

    private static void judge() {
        CartRows x = three();
        x.journey(0, 1, 0, 5, 1);
        x.journey(0, 1, 0, 2, 1);
        Due.due("both at once", x.judge(0), 17);
        Due.due("the first later", x.judge(5), 25);
        Due.due("the second later", x.judge(2 << 3), 22);
        Due.due("both later", x.judge(2 << 3 | 2), 21);
        Due.due("first above last", x.judge(6), OUTSIDE);
        Due.due("second above last", x.judge(3 << 3), OUTSIDE);
        Due.due("bits above are nothing", x.judge(-1 << 6 | 1 << 3), 21);
        Due.due("best is as before", x.best(-1), 17);
        x.clear();
        for (int i = 0; i < 5; i++) {
            x.journey(0, 1, 0, 5, 1);
        }
        Due.due("all five", x.judge(5 << 12 | 4 << 9 | 3 << 6 | 2 << 3 | 1), 50 + 15);
        Due.due("the fifth above last", x.judge(6 << 12), OUTSIDE);
        Due.due("best of five", x.best(-1), 10 + 4 * 7);
    }

    private static void weightsAreTheMakes() {
        CartRows x = new CartRows();
        x.journey(0, 2, 0, 0, 3);
        Due.due("weight 1", x.judge(0), 2);
        x.make(3, 8, 1, 1, 0);
        Due.due("a journey's weight is its make's", x.judge(0), 16);
    }
}
