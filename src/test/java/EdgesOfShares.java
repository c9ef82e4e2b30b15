/** Edges of what is SPARED, and of SHARES: promises 28 to 30. */
final class EdgesOfShares {
    private static final int UNKNOWN = CartRows.UNKNOWN, OUTSIDE = CartRows.OUTSIDE;
    private static final int LEAST = Integer.MIN_VALUE, GREATEST = Integer.MAX_VALUE;

    private EdgesOfShares() {
    }

    static void check() {
        sparedOf();
        setsAsRows();
        shareOf();
        coinsOf();
        spared();
        together();
        share();
    }

    private static void sparedOf() {
        Doc.says("SPARED: of persons 0 .. 5 each, so much is spared (0 .. 99; 0 at first) when it goes right behind "
            + "another one.");
        CartRows x = new CartRows();
        Due.due("0 at first", x.together(63), 0);
        for (int person = 0; person < 6; person++) {
            for (int ahead = 0; ahead < 6; ahead++) {
                if (person != ahead) {
                    Due.due("0 at first", x.spared(person, ahead, 0), 0);
                }
            }
        }
        Due.due("99", x.spared(5, 0, 99), 0);
        Due.due("it is spared that", x.together(33), 99);
        Due.due("0 again", x.spared(5, 0, 0), 99);
        Due.due("nothing", x.together(33), 0);
        x.spared(5, 0, 7);
        Due.due("not if another one is between", x.together(35), 0);
        for (int v : new int[] {-1, 100, LEAST, GREATEST}) {
            Due.due("spared " + v, x.spared(5, 0, v), OUTSIDE);
            Due.due("as it was", x.together(33), 7);
        }
    }

    private static void setsAsRows() {
        Doc.says("A set goes as a row, by numbers: what it is SPARED together.");
        CartRows x = new CartRows();
        for (int person = 0; person < 6; person++) {
            for (int ahead = 0; ahead < 6; ahead++) {
                x.spared(person, ahead, person > ahead ? 10 * person + ahead : 99);
            }
        }
        for (int set = 0; set < 64; set++) {
            int want = 0;
            for (int person = 1; person < 6; person++) {
                int below = set & (1 << person) - 1;
                if ((set >> person & 1) == 1 && below != 0) {
                    want += 10 * person + 31 - Integer.numberOfLeadingZeros(below);
                }
            }
            Due.due("together " + set, x.together(set), want);
        }
    }

    private static void shareIs(CartRows x, int person, int n, int above, int below) {
        Due.due("above, " + person + " of " + n, x.share(person, n, 0), above);
        Due.due("below, " + person + " of " + n, x.share(person, n, 1), below);
    }

    private static void shareOf() {
        Doc.says("SHARE of each of the first n: what comes to the set of those that came ahead by its coming, the mean over "
            + "all orders of coming.");
        CartRows x = new CartRows();
        shareIs(x, 0, 1, 0, 1);
        for (int person = 0; person < 6; person++) {
            shareIs(x, person, 6, 0, 1);
        }
        x.spared(1, 0, 99);
        shareIs(x, 0, 1, 0, 1);
        shareIs(x, 0, 2, 99, 2);
        shareIs(x, 1, 2, 99, 2);
        shareIs(x, 2, 3, 0, 1);
        // of three, 2 right behind 0 is spared 1 unless 1 is between: 1 takes it away
        x = new CartRows();
        x.spared(2, 0, 1);
        shareIs(x, 0, 2, 0, 1);
        shareIs(x, 0, 3, 1, 6);
        shareIs(x, 1, 3, -1, 3);
        shareIs(x, 2, 3, 1, 6);
        // of six, 5 right behind 0: any of the four between takes it away
        x = new CartRows();
        x.spared(5, 0, 1);
        for (int person = 0; person < 5; person++) {
            shareIs(x, person, 5, 0, 1);
        }
        shareIs(x, 0, 6, 1, 30);
        shareIs(x, 5, 6, 1, 30);
        for (int between = 1; between < 5; between++) {
            shareIs(x, between, 6, -1, 60);
        }
        x = new CartRows();
        for (int person = 0; person < 6; person++) {
            for (int ahead = 0; ahead < 6; ahead++) {
                x.spared(person, ahead, 99);
            }
        }
        // each spares 99 but the first that comes: 5 of 6 times 99
        for (int person = 0; person < 6; person++) {
            shareIs(x, person, 6, 165, 2);
        }
    }

    private static void coinsAre(CartRows x, int n, int... coins) {
        int sum = 0;
        for (int person = 0; person < n; person++) {
            Due.due("coins of " + person + " of " + n, x.share(person, n, 2), coins[person]);
            sum += coins[person];
        }
        Due.due("they sum", x.together((1 << n) - 1), sum);
    }

    private static void coinsOf() {
        Doc.says("COINS: each SHARE, cut to the whole number that is not above it; the rest, one each, to those of which "
            + "most was cut off, of several the least.");
        CartRows x = new CartRows();
        coinsAre(x, 1, 0);
        coinsAre(x, 6, 0, 0, 0, 0, 0, 0);
        x.spared(1, 0, 8);
        coinsAre(x, 2, 4, 4);
        x.spared(1, 0, 7);
        coinsAre(x, 2, 4, 3);
        coinsAre(x, 3, 4, 3, 0);
        x.spared(1, 0, 1);
        coinsAre(x, 2, 1, 0);
        x = new CartRows();
        x.spared(2, 0, 1);
        // 1/6, -1/3, 1/6: cut off are 1/6, 2/3, 1/6, and one is left
        coinsAre(x, 3, 0, 0, 0);
        x.spared(2, 0, 2);
        // 1/3, -2/3, 1/3: cut off is 1/3 of each, and one is left
        coinsAre(x, 3, 1, -1, 0);
        x.spared(2, 0, 3);
        // 1/2, -1, 1/2: nothing is cut off of -1
        coinsAre(x, 3, 1, -1, 0);
        x.spared(2, 0, 6);
        coinsAre(x, 3, 1, -2, 1);
        x = new CartRows();
        x.spared(5, 0, 1);
        // 1/30 and 1/30, and -1/60 of four: of these 59/60 is cut off, and four are left
        coinsAre(x, 6, 0, 0, 0, 0, 0, 0);
        x.spared(5, 0, 40);
        // 4/3, -2/3 four times, 4/3: cut off is 1/3 of each; 1 + 1 - 4 = -2, two are left
        coinsAre(x, 6, 2, 0, -1, -1, -1, 1);
    }

    private static void spared() {
        Doc.says("What a person is spared right behind another one: that which it was. UNKNOWN: also itself; OUTSIDE.");
        CartRows x = new CartRows();
        for (int person = 0; person < 6; person++) {
            Due.due("itself", x.spared(person, person, 5), UNKNOWN);
            Due.due("itself, outside too", x.spared(person, person, 100), UNKNOWN);
            for (int nobody : new int[] {-1, 6, LEAST, GREATEST}) {
                Due.due("behind nobody", x.spared(person, nobody, 5), UNKNOWN);
                Due.due("nobody behind one", x.spared(nobody, person, 5), UNKNOWN);
                Due.due("unknown ahead of outside", x.spared(nobody, person, -1), UNKNOWN);
                Due.due("unknown ahead of outside", x.spared(person, nobody, -1), UNKNOWN);
            }
        }
        for (int person = 0; person < 6; person++) {
            for (int ahead = 0; ahead < 6; ahead++) {
                Due.due("at first", x.spared(person, ahead, 6 * person + ahead), person == ahead ? UNKNOWN : 0);
            }
        }
        for (int person = 0; person < 6; person++) {
            for (int ahead = 0; ahead < 6; ahead++) {
                boolean itself = person == ahead;
                Due.due("too much", x.spared(person, ahead, 100), itself ? UNKNOWN : OUTSIDE);
                Due.due("as told", x.spared(person, ahead, 99), itself ? UNKNOWN : 6 * person + ahead);
            }
        }
        Due.due("99 it was", x.spared(0, 5, 0), 99);
        Due.due("0 it was", x.spared(0, 5, 0), 0);
    }

    private static void together() {
        Doc.says("What a set is SPARED together. OUTSIDE: 0 .. 63.");
        CartRows x = new CartRows();
        for (int person = 1; person < 6; person++) {
            x.spared(person, person - 1, 99);
        }
        for (int set : new int[] {-1, 64, 65, LEAST, GREATEST}) {
            Due.due("together " + set, x.together(set), OUTSIDE);
        }
        Due.due("none", x.together(0), 0);
        for (int person = 0; person < 6; person++) {
            Due.due("one alone", x.together(1 << person), 0);
        }
        Due.due("all", x.together(63), 5 * 99);
        Due.due("all but the last", x.together(31), 4 * 99);
        Due.due("all but the first", x.together(62), 4 * 99);
    }

    private static void share() {
        Doc.says("SHARE of a person among the first n (1 .. 6): above (part 0), below (1), in lowest terms, or COINS (2). "
            + "UNKNOWN: person not below n (n 1 .. 6); OUTSIDE.");
        CartRows x = new CartRows();
        x.spared(1, 0, 99);
        for (int n = 1; n <= 6; n++) {
            for (int person = -1; person <= 7; person++) {
                boolean is = person >= 0 && person < n;
                boolean gains = person < 2 && n > 1;
                String call = person + " of " + n;
                Due.due("above, " + call, x.share(person, n, 0), !is ? UNKNOWN : gains ? 99 : 0);
                Due.due("below, " + call, x.share(person, n, 1), !is ? UNKNOWN : gains ? 2 : 1);
                Due.due("coins, " + call, x.share(person, n, 2), !is ? UNKNOWN : gains ? 50 - person : 0);
                Due.due("part -1, " + call, x.share(person, n, -1), is ? OUTSIDE : UNKNOWN);
                Due.due("part 3, " + call, x.share(person, n, 3), is ? OUTSIDE : UNKNOWN);
            }
        }
        for (int n : new int[] {0, -1, 7, LEAST, GREATEST}) {
            for (int part : new int[] {-1, 0, 2, 3}) {
                Due.due("of " + n, x.share(0, n, part), OUTSIDE);
                Due.due("of " + n, x.share(5, n, part), OUTSIDE);
                Due.due("nobody of " + n, x.share(-1, n, part), UNKNOWN);
                Due.due("nobody of " + n, x.share(6, n, part), UNKNOWN);
            }
        }
        Due.due("part of all", x.share(0, 6, LEAST), OUTSIDE);
        Due.due("part of all", x.share(0, 6, GREATEST), OUTSIDE);
    }
}
