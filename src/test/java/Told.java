import java.util.ArrayList;
import java.util.List;

/** An object that was told something of everything, and all that can be asked of it. */
final class Told {
    /** The parts in which all is told: each is of its own, so that they may be told in any order. */
    static final int PARTS = 10;

    private Told() {
    }

    /** Full: as much as there is room for, and THE TEXT has a fault. */
    static CartRows of(boolean full) {
        CartRows x = new CartRows();
        for (int part = 0; part < PARTS; part++) {
            tellPart(x, part, full);
        }
        return x;
    }

    static void tellPart(CartRows x, int part, boolean full) {
        switch (part) {
            case 0 -> tellMakes(x);
            case 1 -> tellTexts(x, full);
            case 2 -> tellRow(x);
            case 3 -> tellSettings(x);
            case 4 -> x.lose(0x40001012);
            case 5 -> tellPushes(x, full);
            case 6 -> tellHills(x, full);
            case 7 -> tellJourneys(x, full);
            case 8 -> tellPersonsAndClocks(x);
            default -> tellEvents(x, full);
        }
    }

    static void tellMakes(CartRows x) {
        x.make(0, 12, 7, 3, 0);
        x.make(1, 20, 6, 2, 1);
        x.make(2, 31, 9, 4, 0);
        x.make(3, 9, 5, 5, 2);
    }

    private static void tellTexts(CartRows x, boolean full) {
        Due.tell(x, 1, "slow 9 when heard above 3;slow 3 when closing above 0;fast 1");
        Due.tell(x, 2, "slow 4 when gap below 9;fast 9 when opening above 1");
        Due.tell(x, 3, "fast 5 when gap above 20 and old below 9;slow 5");
        Due.put(x, full ? "keep when gap below" + " ".repeat(138) : "slow 2;fast 3 when old above 7");
    }

    static void tellRow(CartRows x) {
        x.row(0b10_01_11_10_01_00, 6);
        x.stranger(3, 4, 9, 22);
    }

    static void tellSettings(CartRows x) {
        int[] settings = {17, 25, 2, 4, 3};
        for (int what = 0; what < settings.length; what++) {
            x.set(what, settings[what]);
        }
    }

    private static void tellPushes(CartRows x, boolean full) {
        for (int i = 0; i < (full ? 8 : 3); i++) {
            x.push(3 * i, i % 2 == 0 ? -6 : 4);
        }
    }

    private static void tellHills(CartRows x, boolean full) {
        for (int i = 0; i < (full ? 2 : 1); i++) {
            x.hill(400 + 100 * i, 460 + 100 * i, 19 - 9 * i, 14 - 6 * i);
        }
    }

    private static void tellJourneys(CartRows x, boolean full) {
        for (int i = 0; i < (full ? 5 : 2); i++) {
            x.journey(i, i + 5, 8 + i / 2, 10 + i, i % 4);
        }
    }

    static void tellPersonsAndClocks(CartRows x) {
        for (int person = 1; person < 6; person++) {
            x.spared(person, person - 1, 13 * person);
            x.spared(person, 0, 7 + person);
            x.clock(person, 9 + person);
        }
    }

    private static void tellEvents(CartRows x, boolean full) {
        for (int i = 0; i < 12; i++) {
            x.event(i % 6, 300 + 3 * i);
        }
        for (int i = 0; i < (full ? 12 : 4); i++) {
            x.after(i % 11, i % 11 + 1, i == 11 ? 8 : 2);
        }
    }

    static int[] answers(CartRows x) {
        List<Integer> all = new ArrayList<>();
        for (int what = 0; what < 7; what++) {
            all.add(x.count(what));
        }
        askRuns(x, all);
        askJourneysAndShares(x, all);
        for (int event = 0; event < 12; event++) {
            all.add(x.span(event, 0));
            all.add(x.span(event, 1));
        }
        all.add(x.agree());
        askMakes(x, all);
        tellAnew(x, all);
        return all.stream().mapToInt(i -> i).toArray();
    }

    private static void askRuns(CartRows x, List<Integer> all) {
        for (int lorry = 0; lorry < 6; lorry++) {
            for (int tick : new int[] {2, 7, 16, 31}) {
                all.add(x.at(lorry, tick, 1 + lorry % 2));
                all.add(x.at(lorry, tick, 3));
            }
            all.add(x.dip(lorry));
            all.add(x.least(lorry));
        }
        for (int tick : new int[] {3, 7, 15, 31}) {
            all.add(x.at(1, tick, 4));
            all.add(x.at(1, tick, 5));
        }
        all.add(x.touch(0));
        all.add(x.touch(1));
        all.add(x.grows());
        all.add(x.need(1, 1));
        all.add(x.worst(30, 1, 1));
        all.add(x.sparing());
        all.add(x.bears(0, 2000));
        all.add(x.bears(500, 530));
    }

    private static void askJourneysAndShares(CartRows x, List<Integer> all) {
        for (int what = -1; what < 5; what++) {
            all.add(x.best(what));
        }
        all.add(x.judge(0b001_000_001_000_001));
        // each journey in its last hour, and in the one behind it
        int[] tooLate = {3, 4, 4, 5, 5};
        for (int i = 0; i < 5; i++) {
            all.add(x.judge(tooLate[i] - 1 << 3 * i));
            all.add(x.judge(tooLate[i] << 3 * i));
        }
        for (int person = 0; person < 6; person++) {
            all.add(x.share(person, 6, 0));
            all.add(x.share(person, 6, 2));
        }
    }

    /** Each make as the first one of the row, and behind it. */
    private static void askMakes(CartRows x, List<Integer> all) {
        for (int make = 0; make < 4; make++) {
            all.add(x.row(make << 2 | make, 2));
            all.add(x.bears(0, 2000));
            for (int tick : new int[] {0, 3}) {
                all.add(x.at(0, tick, 3));
                all.add(x.at(0, tick, 0));
                all.add(x.at(1, tick, 3));
                all.add(x.at(1, tick, 0));
            }
        }
    }

    /** What was told shows in what telling anew answers. */
    private static void tellAnew(CartRows x, List<Integer> all) {
        for (int what = 0; what < 5; what++) {
            all.add(x.set(what, 1));
        }
        for (int person = 0; person < 6; person++) {
            all.add(x.clock(person, 0));
            for (int ahead = 0; ahead < person; ahead++) {
                all.add(x.spared(person, ahead, 0));
                all.add(x.spared(ahead, person, 0));
            }
        }
        all.add(x.fault());
        all.add(x.write(0x2033, 2));
        all.add(x.fault());
        all.add(x.table(0));
        all.add(x.at(1, 0, 3));
        all.add(x.erase());
        all.add(x.calm());
        all.add(x.clear());
    }

    static void same(String what, int[] got, int[] want) {
        Due.due(what + ": answers", got.length, want.length);
        for (int i = 0; i < Math.min(got.length, want.length); i++) {
            Due.due(what + ": answer " + i, got[i], want[i]);
        }
    }
}
