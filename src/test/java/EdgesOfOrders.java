/** A call changes what it tells of, and nothing else: in whatever order all is told, it is answered alike. */
final class EdgesOfOrders {
    private EdgesOfOrders() {
    }

    static void check() {
        Doc.says("Nothing is promised beyond the answers and state changes described above");
        for (boolean full : new boolean[] {false, true}) {
            int[] want = Told.answers(Told.of(full));
            for (int begin = 0; begin < Told.PARTS; begin++) {
                Told.same("forwards from part " + begin, Told.answers(inOrder(begin, 1, full)), want);
                Told.same("backwards from part " + begin, Told.answers(inOrder(begin, -1, full)), want);
            }
            Told.same("told again", Told.answers(toldAgain(full)), want);
        }
    }

    /** With something told and taken back ahead of a part, so that what takes it back is nothing to the others. */
    private static CartRows inOrder(int begin, int step, boolean full) {
        CartRows x = new CartRows();
        for (int i = 0; i < Told.PARTS; i++) {
            int part = Math.floorMod(begin + step * i, Told.PARTS);
            tellAndTakeBack(x, part);
            Told.tellPart(x, part, full);
        }
        return x;
    }

    private static void tellAndTakeBack(CartRows x, int part) {
        switch (part) {
            case 1 -> {
                x.write(0x21, 1);
                Due.due("erase", x.erase(), 1);
            }
            case 2 -> {
                x.row(-1, 6);
                x.stranger(5, 0, 31, 0);
                x.row(0, 1);
            }
            case 4 -> x.lose(-1);
            case 5 -> {
                x.push(31, 5);
                Due.due("calm", x.calm(), 1);
            }
            case 7 -> {
                x.journey(0, 9, 0, 0, 0);
                Due.due("clear", x.clear(), 1);
            }
            default -> {
            }
        }
    }

    /** What takes the place of what was told takes it with the same: makes keep their tables, the row its stranger. */
    private static CartRows toldAgain(boolean full) {
        CartRows x = Told.of(full);
        x.row(0b10_01_11_10_01_00, 6);
        Told.tellMakes(x);
        Told.tellSettings(x);
        Told.tellPersonsAndClocks(x);
        x.lose(0x40001012);
        Told.tellRow(x);
        x.row(0b10_01_11_10_01_00, 6);
        return x;
    }
}
