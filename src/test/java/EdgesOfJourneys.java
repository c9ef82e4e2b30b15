/** Edges of JOURNEYS, BEST and what HOURS cost: promises 24 to 27. */
final class EdgesOfJourneys {
    private static final int NONE = CartRows.NONE, UNKNOWN = CartRows.UNKNOWN, OUTSIDE = CartRows.OUTSIDE,
        FULL = CartRows.FULL;
    private static final int LEAST = Integer.MIN_VALUE, GREATEST = Integer.MAX_VALUE;

    private EdgesOfJourneys() {
    }

    static void check() {
        journeysAtMost();
        rows();
        late();
        bestOf();
        journey();
        clear();
        best();
        judge();
    }

    /** Makes 1, 2, 3 of weights 10, 20, 30. */
    private static CartRows weighed() {
        CartRows x = new CartRows();
        x.make(1, 10, 1, 1, 0);
        x.make(2, 20, 1, 1, 0);
        x.make(3, 30, 1, 1, 0);
        return x;
    }

    private static void journeysAtMost() {
        Doc.says("JOURNEYS (5 at most) go from a PLACE to a greater one (0 .. 9), a PLACE an HOUR, leaving in an HOUR from "
            + "first to last (0 .. 23; 5 apart at most), of a MAKE's WEIGHT.");
        CartRows x = weighed();
        for (int i = 0; i < 5; i++) {
            Due.due("journey", x.journey(0, 1, 0, 0, 0), i);
        }
        Due.due("a sixth", x.journey(0, 1, 0, 0, 0), FULL);
        for (int from = 0; from <= 9; from++) {
            for (int to = 0; to <= 9; to++) {
                x.clear();
                Due.due("from " + from + " to " + to, x.journey(from, to, 0, 0, 2), to > from ? 0 : UNKNOWN);
                Due.due("an hour for each place", x.judge(0), to > from ? 20 * (to - from) : 0);
            }
        }
        for (int[] hours : new int[][] {{0, 0}, {0, 5}, {18, 23}, {23, 23}, {22, 23}}) {
            x.clear();
            Due.due("from hour " + hours[0] + " to " + hours[1], x.journey(0, 1, hours[0], hours[1], 1), 0);
            Due.due("the first hour", x.best(0), hours[0]);
            Due.due("the last hour", x.judge(hours[1] - hours[0]), 10 + hours[1] - hours[0]);
            Due.due("none behind it", x.judge(hours[1] - hours[0] + 1), OUTSIDE);
        }
        for (int[] hours : new int[][] {{0, 6}, {18, 24}, {23, 24}, {24, 24}, {-1, 0}, {-1, -1}, {5, 4}, {17, 23},
            {23, 0}}) {
            x.clear();
            Due.due("from hour " + hours[0] + " to " + hours[1], x.journey(0, 1, hours[0], hours[1], 1), OUTSIDE);
        }
        // a place an hour: the second comes to place 3 as the first does, if it leaves place 1 an hour later
        x.clear();
        x.journey(0, 9, 14, 14, 1);
        x.journey(1, 9, 15, 15, 1);
        Due.due("side by side from place 1", x.judge(0), 10 + 8 * (10 + 8));
        x.clear();
        x.journey(0, 9, 14, 14, 1);
        x.journey(1, 9, 15, 15, 2);
        Due.due("behind the heavier one from place 1", x.judge(0), 10 + 8 * (20 + 8));
        x.clear();
        x.journey(2, 9, 16, 16, 1);
        x.journey(1, 9, 15, 15, 1);
        Due.due("side by side from place 2", x.judge(0), 10 + 7 * (10 + 8));
        x.clear();
        x.journey(0, 9, 14, 14, 1);
        x.journey(1, 9, 14, 14, 1);
        Due.due("an hour ahead", x.judge(0), 90 + 80);
    }

    private static void rows() {
        Doc.says("Those that leave a PLACE in the same HOUR go as a row: the one of the greatest WEIGHT (of several the "
            + "least number) burns its WEIGHT, each other one its WEIGHT less SPARE (0 .. 9; 2 at first), 1 at least.");
        CartRows x = weighed();
        x.journey(0, 1, 0, 0, 1);
        Due.due("one alone", x.judge(0), 10);
        x.journey(0, 1, 0, 0, 2);
        Due.due("2 at first", x.judge(0), 20 + 8);
        x.journey(0, 1, 0, 0, 3);
        Due.due("three", x.judge(0), 30 + 18 + 8);
        int was = 2;
        for (int spare = 0; spare <= 9; spare++) {
            Due.due("spare", x.set(3, spare), was);
            was = spare;
            Due.due("spare " + spare, x.judge(0), 30 + 20 - spare + 10 - spare);
        }
        for (int spare : new int[] {-1, 10, LEAST, GREATEST}) {
            Due.due("spare " + spare, x.set(3, spare), OUTSIDE);
            Due.due("as it was", x.judge(0), 30 + 11 + 1);
        }
        x.make(1, 9, 1, 1, 0);
        Due.due("9 less 9: 1 at least", x.judge(0), 30 + 11 + 1);
        x.make(1, 1, 1, 1, 0);
        Due.due("1 less 9: 1 at least", x.judge(0), 30 + 11 + 1);
        x.make(3, 1, 1, 1, 0);
        x.make(2, 1, 1, 1, 0);
        Due.due("all of 1", x.judge(0), 3);
        x.make(1, 7, 1, 1, 0);
        x.make(2, 7, 1, 1, 0);
        x.make(3, 7, 1, 1, 0);
        x.set(3, 5);
        Due.due("of several one alone burns all", x.judge(0), 7 + 2 + 2);
        x.clear();
        x.journey(3, 5, 7, 7, 1);
        x.journey(4, 6, 7, 7, 1);
        Due.due("the same hour, other places", x.judge(0), 28);
        x.clear();
        x.journey(3, 5, 7, 7, 1);
        x.journey(5, 6, 9, 9, 1);
        Due.due("who comes to a place does not leave it", x.judge(0), 21);
        x.clear();
        x.journey(0, 9, 23, 23, 1);
        x.journey(1, 9, 0, 0, 1);
        Due.due("hours behind 23 are not those of the next day", x.judge(0), 63 + 56);
        x.clear();
        x.journey(0, 9, 23, 23, 1);
        x.journey(0, 9, 23, 23, 1);
        Due.due("but they are hours", x.judge(0), 9 * (7 + 2));
    }

    private static void late() {
        Doc.says("Each HOUR later than first costs LATE (0 .. 9; 1 at first).");
        CartRows x = weighed();
        x.journey(0, 1, 4, 9, 1);
        for (int hours = 0; hours <= 5; hours++) {
            Due.due("1 at first, " + hours, x.judge(hours), 10 + hours);
        }
        int was = 1;
        for (int late = 0; late <= 9; late++) {
            Due.due("late", x.set(4, late), was);
            was = late;
            Due.due("late " + late, x.judge(5), 10 + 5 * late);
            Due.due("not late", x.judge(0), 10);
        }
        for (int late : new int[] {-1, 10, LEAST, GREATEST}) {
            Due.due("late " + late, x.set(4, late), OUTSIDE);
            Due.due("as it was", x.judge(5), 10 + 45);
        }
    }

    private static void bestOf() {
        Doc.says("BEST: HOURS of leaving by which all burnt and all LATE together is least; of several the first (by "
            + "JOURNEYS).");
        CartRows x = weighed();
        x.set(4, 0);
        x.journey(0, 1, 3, 8, 1);
        Due.due("of all alike the first", x.best(0), 3);
        x.journey(0, 1, 5, 10, 1);
        bestIs(x, 18, 5, 5);
        x.set(4, 1);
        bestIs(x, 20, 3, 5);
        Due.due("2 hours cost 2 and spare 2: as dear", x.judge(2), 20);
        x.set(3, 3);
        bestIs(x, 10 + 7 + 2, 5, 5);
        x.clear();
        // the last hour of both is the only one in which they meet
        x.journey(0, 9, 0, 5, 1);
        x.journey(0, 9, 5, 5, 1);
        bestIs(x, 9 * 17 + 5, 5, 5);
        x.clear();
        x.journey(0, 9, 5, 5, 1);
        x.journey(0, 9, 0, 5, 1);
        bestIs(x, 9 * 17 + 5, 5, 5);
        x.clear();
        // 0 and 1, or 1 and 2: by journeys the lesser hours of 0 come first, then those of 1
        x.set(4, 0);
        x.journey(0, 1, 0, 3, 1);
        x.journey(0, 1, 0, 3, 1);
        x.journey(0, 1, 3, 3, 1);
        bestIs(x, 10 + 7 + 7, 3, 3, 3);
        x.clear();
        x.journey(0, 1, 0, 2, 1);
        x.journey(0, 1, 2, 5, 1);
        x.journey(0, 1, 5, 5, 1);
        bestIs(x, 10 + 10 + 7, 0, 5, 5);
        x.clear();
        // all five, each of six hours
        for (int i = 0; i < 5; i++) {
            x.journey(0, 1, i, i + 5, 1);
        }
        bestIs(x, 10 + 4 * 7, 4, 4, 4, 4, 4);
        x.set(4, 9);
        bestIs(x, 50, 0, 1, 2, 3, 4);
    }

    private static void bestIs(CartRows x, int all, int... hours) {
        Due.due("all together", x.best(-1), all);
        for (int i = 0; i < hours.length; i++) {
            Due.due("hour of " + i, x.best(i), hours[i]);
        }
        Due.due("no more of them", x.best(hours.length), NONE);
        Due.due("that many", x.count(3), hours.length);
    }

    private static void journey() {
        Doc.says("A JOURNEY: its number. UNKNOWN: PLACES (to not greater than from), MAKE; OUTSIDE: HOURS; FULL.");
        int[][] unknown = {{-1, 5, 0}, {LEAST, 5, 0}, {9, 9, 0}, {9, 10, 0}, {10, 11, 0}, {GREATEST, LEAST, 0},
            {GREATEST, GREATEST, 0}, {0, 0, 0}, {0, -1, 0}, {0, 10, 0}, {0, GREATEST, 0}, {0, LEAST, 0}, {5, 5, 0},
            {5, 4, 0}, {0, 1, -1}, {0, 1, 4}, {0, 1, LEAST}, {0, 1, GREATEST}};
        int[][] outside = {{-1, 0}, {0, -1}, {24, 24}, {23, 24}, {0, 6}, {5, 4}, {LEAST, 0}, {0, GREATEST},
            {GREATEST, GREATEST}, {LEAST, LEAST}, {GREATEST, LEAST}};
        CartRows x = weighed();
        for (int number = 0; number <= 5; number++) {
            for (int[] u : unknown) {
                String call = "journey " + java.util.Arrays.toString(u);
                Due.due(call, x.journey(u[0], u[1], 0, 0, u[2]), UNKNOWN);
                Due.due(call + ", hours too", x.journey(u[0], u[1], 24, 23, u[2]), UNKNOWN);
            }
            for (int[] o : outside) {
                Due.due("journey at " + java.util.Arrays.toString(o), x.journey(0, 9, o[0], o[1], 3), OUTSIDE);
            }
            Due.due("as many", x.count(3), number);
            Due.due("as dear", x.best(-1), number * 10);
            Due.due("its number", x.journey(number, number + 1, number, number, 1), number < 5 ? number : FULL);
        }
        Due.due("five", x.count(3), 5);
        Due.due("as dear", x.best(-1), 50);
    }

    private static void clear() {
        Doc.says("There are no JOURNEYS any more: how many there were.");
        CartRows x = weighed();
        Due.due("none", x.clear(), 0);
        for (int n = 1; n <= 5; n++) {
            for (int i = 0; i < n; i++) {
                Due.due("numbers begin anew", x.journey(0, 9, 7, 9, 3), i);
            }
            Due.due("clear", x.clear(), n);
            Due.due("none", x.count(3), 0);
            Due.due("nothing burnt", x.best(-1), 0);
            Due.due("no hour", x.best(0), NONE);
            Due.due("nothing to judge", x.judge(7), 0);
        }
        x.journey(0, 1, 2, 2, 1);
        Due.due("that alone", x.best(-1), 10);
    }

    private static void best() {
        Doc.says("BEST: all together (what -1), or the HOUR of a JOURNEY; NONE: there is no such JOURNEY. OUTSIDE: below "
            + "-1.");
        CartRows x = weighed();
        for (int n = 0; n <= 5; n++) {
            Due.due("all together", x.best(-1), 20 * n);
            for (int i = 0; i < n; i++) {
                Due.due("hour", x.best(i), 3 * i);
            }
            for (int what : new int[] {n, n + 1, 5, 6, GREATEST}) {
                Due.due("best of " + what, x.best(what), what < n ? 3 * what : NONE);
            }
            for (int what : new int[] {-2, -3, LEAST}) {
                Due.due("best of " + what, x.best(what), OUTSIDE);
            }
            if (n < 5) {
                x.journey(n, n + 1, 3 * n, 3 * n + 5, 2);
            }
        }
        Due.due("best changes nothing", x.judge(0), 100);
    }

    private static void judge() {
        Doc.says("What HOURS cost (HOUR of JOURNEY i: first and row >> 3 i & 7; last at most). OUTSIDE: one is above last.");
        CartRows x = weighed();
        for (int row : new int[] {0, 7, -1, LEAST, GREATEST}) {
            Due.due("no journeys, any row", x.judge(row), 0);
        }
        // places of their own, so that none meet; journey i has i + 1 hours
        for (int i = 0; i < 5; i++) {
            x.journey(i, i + 1, 0, i, 1);
        }
        Due.due("all at first, which is one row for none", x.judge(0), 50);
        for (int i = 0; i < 5; i++) {
            for (int hour = 0; hour < 8; hour++) {
                Due.due("journey " + i + " by " + hour, x.judge(hour << 3 * i), hour <= i ? 50 + hour : OUTSIDE);
            }
        }
        int last = 1 << 3 | 2 << 6 | 3 << 9 | 4 << 12;
        x.set(3, 0);
        Due.due("all at last", x.judge(last), 50 + 1 + 2 + 3 + 4);
        Due.due("bits above are nothing", x.judge(last | -1 << 15), 60);
        Due.due("the sign is nothing", x.judge(LEAST), 50);
        Due.due("one above last is enough", x.judge(last + 1), OUTSIDE);
        Due.due("all above last", x.judge(-1), OUTSIDE);
        Due.due("best is what it was", x.best(-1), 50);
        Due.due("its hours too", x.best(4), 0);
        x.clear();
        x.journey(0, 1, 0, 5, 1);
        Due.due("bits of no journey are nothing", x.judge(-1 << 3 | 5), 15);
        Due.due("the hours of all eight", x.judge(6), OUTSIDE);
        Due.due("the hours of all eight", x.judge(7), OUTSIDE);
    }
}
