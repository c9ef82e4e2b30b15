import java.util.ArrayList;
import java.util.Arrays;
import java.util.List;

/**
 * Every call with numbers that do not fit, alone and together: the first refusal that fits is answered, and nothing
 * changes: behind many refusals an object answers all that one answers which was never asked them.
 */
final class EdgesOfRefusals {
    private static final int UNKNOWN = CartRows.UNKNOWN, OUTSIDE = CartRows.OUTSIDE,
        NOT = CartRows.NOT, FULL = CartRows.FULL;
    private static final int LEAST = Integer.MIN_VALUE, GREATEST = Integer.MAX_VALUE;
    /** So many refusals are tried on an object: told what is told and asked what is asked, it stays below 512 calls. */
    private static final int AT_ONCE = 120;

    private interface Call {
        int of(CartRows x, int[] numbers);
    }

    /** Of one number: some that fit (with each other), those that are UNKNOWN, those that are OUTSIDE. */
    private record Numbers(int[] fit, int[] unknown, int[] outside) {
    }

    /** A call whose numbers fit or not, each for itself. */
    private record Spec(String name, Call call, int unknown, int outside, Numbers... numbers) {
    }

    private EdgesOfRefusals() {
    }

    static void check() {
        Doc.says("Refused, and nothing changes: UNKNOWN (no such MAKE, LORRY, person, CLOCK, EVENT, PLACE), OUTSIDE "
            + "(another number is not as told), NOT (not now: as told), FULL: the first of these that fits.");
        for (boolean full : new boolean[] {false, true}) {
            for (Spec spec : specs()) {
                tryAll(spec, full);
            }
            refusalsOfTwoNumbers(full);
            text(full);
        }
        fullAlone();
        questions();
    }

    // ---- which numbers fit

    private static Numbers known(int least, int most) {
        return new Numbers(new int[] {least, most}, new int[] {least - 1, most + 1, LEAST, GREATEST}, new int[0]);
    }

    private static Numbers within(int least, int most) {
        return new Numbers(new int[] {least, most}, new int[0], new int[] {least - 1, most + 1, LEAST, GREATEST});
    }

    /** Two of which the second may not be less than the first: any of the one fit any of the other. */
    private static Numbers lower(int least, int middle, int most) {
        return new Numbers(new int[] {least, middle}, new int[0], new int[] {least - 1, most + 1, LEAST, GREATEST});
    }

    private static Numbers upper(int middle, int most) {
        return new Numbers(new int[] {middle, most}, new int[0], new int[] {-1, most + 1, LEAST, GREATEST});
    }

    private static Numbers of(int[] fit, int[] unknown, int[] outside) {
        return new Numbers(fit, unknown, outside);
    }

    private static List<Spec> specs() {
        int[] no = {};
        List<Spec> all = new ArrayList<>();
        all.add(new Spec("make", (x, n) -> x.make(n[0], n[1], n[2], n[3], n[4]), UNKNOWN, OUTSIDE, known(0, 3),
            within(1, 40), within(1, 9), within(1, 5), within(0, 3)));
        all.add(new Spec("row", (x, n) -> x.row(n[0], n[1]), UNKNOWN, OUTSIDE, of(new int[] {0, -1, 4095}, no, no),
            within(1, 6)));
        for (int what = 0; what < 5; what++) {
            int[] least = {1, 0, 0, 0, 0};
            int[] most = {99, 40, 4, 9, 9};
            all.add(new Spec("set", (x, n) -> x.set(n[0], n[1]), UNKNOWN, OUTSIDE,
                of(new int[] {what}, no, new int[] {-1, 5, LEAST, GREATEST}), within(least[what], most[what])));
        }
        all.add(new Spec("push", (x, n) -> x.push(n[0], n[1]), UNKNOWN, OUTSIDE, within(0, 31), within(-9, 5)));
        all.add(new Spec("hill", (x, n) -> x.hill(n[0], n[1], n[2], n[3]), UNKNOWN, OUTSIDE, lower(0, 300, 2000),
            upper(300, 2000), within(0, 40), within(0, 40)));
        all.add(new Spec("stranger", (x, n) -> x.stranger(n[0], n[1], n[2], n[3]), UNKNOWN, OUTSIDE, known(1, 5),
            lower(0, 9, 31), upper(9, 31), within(0, 40)));
        all.add(new Spec("at", (x, n) -> x.at(n[0], n[1], n[2]), LEAST, LEAST, known(0, 5), within(0, 31), within(0, 5)));
        all.add(new Spec("touch", (x, n) -> x.touch(n[0]), UNKNOWN, OUTSIDE, within(0, 1)));
        all.add(new Spec("least", (x, n) -> x.least(n[0]), LEAST, LEAST, known(1, 5)));
        all.add(new Spec("dip", (x, n) -> x.dip(n[0]), UNKNOWN, OUTSIDE, known(0, 5)));
        all.add(new Spec("safe", (x, n) -> x.safe(n[0], n[1], n[2]), UNKNOWN, OUTSIDE, within(1, 99), within(0, 4),
            within(0, 2)));
        all.add(new Spec("need", (x, n) -> x.need(n[0], n[1]), UNKNOWN, OUTSIDE, within(0, 4), within(0, 2)));
        all.add(new Spec("worst", (x, n) -> x.worst(n[0], n[1], n[2]), UNKNOWN, OUTSIDE, within(1, 99), within(0, 4),
            within(0, 2)));
        all.add(new Spec("bears", (x, n) -> x.bears(n[0], n[1]), UNKNOWN, OUTSIDE, lower(0, 300, 2000), upper(300, 2000)));
        all.add(new Spec("journey", (x, n) -> x.journey(n[0], n[1], n[2], n[3], n[4]), UNKNOWN, OUTSIDE,
            of(new int[] {0, 4}, new int[] {-1, 9, 10, GREATEST}, no),
            of(new int[] {5, 9}, new int[] {0, 10, LEAST, GREATEST}, no),
            of(new int[] {3, 5}, no, new int[] {-1, 24, LEAST, GREATEST}),
            of(new int[] {5, 8}, no, new int[] {2, 11, LEAST, GREATEST}), known(0, 3)));
        all.add(new Spec("best", (x, n) -> x.best(n[0]), UNKNOWN, OUTSIDE,
            of(new int[] {-1, 0}, no, new int[] {-2, LEAST})));
        all.add(new Spec("spared", (x, n) -> x.spared(n[0], n[1], n[2]), UNKNOWN, OUTSIDE, known(0, 5),
            of(new int[] {1, 4}, new int[] {-1, 6, LEAST, GREATEST}, no), within(0, 99)));
        all.add(new Spec("together", (x, n) -> x.together(n[0]), UNKNOWN, OUTSIDE, within(0, 63)));
        all.add(new Spec("share", (x, n) -> x.share(n[0], n[1], n[2]), UNKNOWN, OUTSIDE,
            of(new int[] {0, 1}, new int[] {-1, 6, LEAST, GREATEST}, no),
            of(new int[] {2, 6}, no, new int[] {0, 7, LEAST, GREATEST}), within(0, 2)));
        all.add(new Spec("clock", (x, n) -> x.clock(n[0], n[1]), UNKNOWN, OUTSIDE, known(0, 5), within(0, 60)));
        all.add(new Spec("event", (x, n) -> x.event(n[0], n[1]), UNKNOWN, OUTSIDE, known(0, 5), within(0, 999)));
        all.add(new Spec("after", (x, n) -> x.after(n[0], n[1], n[2]), UNKNOWN, OUTSIDE,
            of(new int[] {0, 2}, new int[] {-1, 12, LEAST, GREATEST}, no),
            of(new int[] {1, 3}, new int[] {-1, 12, LEAST, GREATEST}, no), within(0, 99)));
        all.add(new Spec("span", (x, n) -> x.span(n[0], n[1]), LEAST, LEAST, known(0, 11), within(0, 1)));
        all.add(new Spec("count", (x, n) -> x.count(n[0]), UNKNOWN, OUTSIDE, within(0, 6)));
        return all;
    }

    // ---- all of them, one with each other

    private record Try(String call, Call of, int[] numbers, int due) {
    }

    private static void tryAll(Spec spec, boolean full) {
        List<Try> tries = new ArrayList<>();
        collect(spec, new int[spec.numbers.length], 0, 0, tries);
        tryRefused(tries, full);
    }

    /** worst: 0 if all so far fit, 1 if one is OUTSIDE, 2 if one is UNKNOWN. */
    private static void collect(Spec spec, int[] numbers, int at, int worst, List<Try> tries) {
        if (at == numbers.length) {
            if (worst > 0) {
                tries.add(new Try(spec.name, spec.call, numbers.clone(), worst == 2 ? spec.unknown : spec.outside));
            }
            return;
        }
        Numbers here = spec.numbers[at];
        int[][] kinds = {here.fit, here.outside, here.unknown};
        for (int kind = 0; kind < 3; kind++) {
            for (int number : kinds[kind]) {
                numbers[at] = number;
                collect(spec, numbers, at + 1, Math.max(worst, kind), tries);
            }
        }
    }

    private static void tryRefused(List<Try> tries, boolean full) {
        int[] want = Told.answers(Told.of(full));
        for (int from = 0; from < tries.size(); from += AT_ONCE) {
            CartRows x = Told.of(full);
            List<Try> some = tries.subList(from, Math.min(tries.size(), from + AT_ONCE));
            for (Try one : some) {
                Due.due(one.call + Arrays.toString(one.numbers) + (full ? ", full" : ""), one.of.of(x, one.numbers), one.due);
            }
            Told.same("behind refusals of " + some.get(0).call, Told.answers(x), want);
        }
    }

    private static Try row(String name, Call call, int due, int... numbers) {
        return new Try(name, call, numbers, due);
    }

    /** Numbers that would fit, but not beside one another. */
    private static void refusalsOfTwoNumbers(boolean full) {
        Call hill = (x, n) -> x.hill(n[0], n[1], n[2], n[3]);
        Call stranger = (x, n) -> x.stranger(n[0], n[1], n[2], n[3]);
        Call journey = (x, n) -> x.journey(n[0], n[1], n[2], n[3], n[4]);
        Call spared = (x, n) -> x.spared(n[0], n[1], n[2]);
        Call share = (x, n) -> x.share(n[0], n[1], n[2]);
        Call after = (x, n) -> x.after(n[0], n[1], n[2]);
        Call bears = (x, n) -> x.bears(n[0], n[1]);
        tryRefused(List.of(row("hill", hill, OUTSIDE, 1, 0, 0, 0), row("hill", hill, OUTSIDE, 2000, 1999, 0, 0),
            row("bears", bears, OUTSIDE, 1, 0), row("bears", bears, OUTSIDE, 2000, 1999),
            row("stranger", stranger, OUTSIDE, 1, 1, 0, 0), row("stranger", stranger, OUTSIDE, 5, 31, 30, 0),
            row("stranger", stranger, UNKNOWN, 0, 31, 30, 0), row("stranger", stranger, UNKNOWN, 6, 1, 0, 0),
            row("journey", journey, UNKNOWN, 0, 0, 0, 0, 0), row("journey", journey, UNKNOWN, 9, 9, 0, 0, 0),
            row("journey", journey, UNKNOWN, 5, 4, 0, 0, 0), row("journey", journey, UNKNOWN, 5, 5, 0, 6, 0),
            row("journey", journey, OUTSIDE, 0, 1, 0, 6, 0), row("journey", journey, OUTSIDE, 0, 1, 17, 23, 0),
            row("journey", journey, OUTSIDE, 0, 1, 5, 4, 0), row("journey", journey, OUTSIDE, 0, 1, 20, 24, 0),
            row("spared", spared, UNKNOWN, 0, 0, 0), row("spared", spared, UNKNOWN, 5, 5, 99),
            row("spared", spared, UNKNOWN, 3, 3, 100), row("share", share, UNKNOWN, 1, 1, 0),
            row("share", share, UNKNOWN, 5, 5, 1), row("share", share, UNKNOWN, 5, 1, 2),
            row("share", share, UNKNOWN, 3, 3, 3), row("share", share, OUTSIDE, 5, 0, 0),
            row("share", share, OUTSIDE, 5, 7, 0), row("after", after, UNKNOWN, 0, 0, 0),
            row("after", after, UNKNOWN, 3, 3, 99), row("after", after, UNKNOWN, 3, 3, 100)), full);
    }

    private static void text(boolean full) {
        Call write = (x, n) -> x.write(0x6565656565656565L, n[0]);
        Call table = (x, n) -> x.table(n[0]);
        List<Try> tries = new ArrayList<>();
        for (int n : new int[] {0, -1, 9, LEAST, GREATEST}) {
            tries.add(row("write", write, OUTSIDE, n));
        }
        for (int make : new int[] {-1, 4, LEAST, GREATEST}) {
            tries.add(row("table", table, UNKNOWN, make));
        }
        if (full) {
            for (int n = 4; n <= 8; n++) {
                tries.add(row("write", write, FULL, n));
            }
            for (int make = 0; make < 4; make++) {
                tries.add(row("table", table, NOT, make));
            }
        }
        tryRefused(tries, full);
    }

    /** All numbers fit, and there is no room. */
    private static void fullAlone() {
        Call push = (x, n) -> x.push(n[0], n[1]);
        Call hill = (x, n) -> x.hill(n[0], n[1], n[2], n[3]);
        Call journey = (x, n) -> x.journey(n[0], n[1], n[2], n[3], n[4]);
        Call event = (x, n) -> x.event(n[0], n[1]);
        Call after = (x, n) -> x.after(n[0], n[1], n[2]);
        List<Try> tries = List.of(row("push", push, FULL, 0, -9), row("push", push, FULL, 31, 5),
            row("push", push, FULL, 2, 0), row("hill", hill, FULL, 0, 0, 0, 0), row("hill", hill, FULL, 0, 2000, 0, 0),
            row("hill", hill, FULL, 2000, 2000, 40, 40), row("journey", journey, FULL, 0, 9, 0, 5, 0),
            row("journey", journey, FULL, 8, 9, 18, 23, 2), row("event", event, FULL, 0, 0),
            row("event", event, FULL, 5, 999), row("after", after, FULL, 0, 1, 0), row("after", after, FULL, 11, 0, 99));
        // each on an object of its own, lest one undoes what another one does
        for (Try one : tries) {
            tryRefused(List.of(one), true);
        }
    }

    /** What is only asked changes nothing either. */
    private static void questions() {
        for (boolean full : new boolean[] {false, true}) {
            CartRows x = Told.of(full);
            x.fault();
            x.at(3, 31, 1);
            x.touch(0);
            x.least(1);
            x.dip(5);
            x.grows();
            x.safe(99, 4, 2);
            x.safe(1, 0, 0);
            x.need(4, 2);
            x.worst(1, 4, 2);
            x.sparing();
            x.bears(0, 2000);
            x.best(-1);
            x.best(0);
            x.judge(0);
            x.judge(1);
            x.judge(-1);
            x.together(63);
            x.share(5, 6, 2);
            x.agree();
            x.span(0, 0);
            x.count(6);
            Told.same("behind questions", Told.answers(x), Told.answers(Told.of(full)));
        }
    }
}
