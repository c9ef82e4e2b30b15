import java.lang.reflect.Method;
import java.nio.charset.StandardCharsets;
import java.util.ArrayList;
import java.util.Arrays;
import java.util.List;
import java.util.Random;

/** Many runs of up to 512 calls, with fitting and unfitting numbers: the class must answer as Model does. */
public final class OracleTest {
    private static final int RUNS = 400;
    /** Of each call, the least and the most of each number that fits; a call is named as often as it shall be likely. */
    private static final Object[][] CALLS = {
        {"make", 0, 3, 1, 40, 1, 9, 1, 5, 0, 3}, {"make", 0, 3, 1, 40, 4, 9, 1, 5, 0, 1},
        {"erase"}, {"fault"}, {"table", 0, 3}, {"row", 0, 4095, 1, 6}, {"row", -5, 4095, 3, 6},
        {"set", 0, 4, 0, 40}, {"set", 0, 4, 0, 4}, {"set", 0, 0, 1, 99}, {"set", 0, 0, 10, 40}, {"set", 1, 1, 0, 40},
        {"push", 0, 31, -9, 5}, {"push", 0, 7, -9, 5}, {"push", 0, 7, -9, -1}, {"calm"},
        {"lose", -1, 63}, {"lose", 0, 255}, {"lose", Integer.MIN_VALUE, Integer.MAX_VALUE},
        {"hill", 250, 500, 300, 900, 0, 40, 0, 40}, {"stranger", 1, 5, 0, 20, 5, 31, 0, 40},
        {"at", 0, 5, 0, 31, 0, 5}, {"at", 0, 5, 0, 31, 0, 5}, {"at", 1, 5, 0, 31, 0, 5}, {"at", 1, 5, 0, 31, 0, 5},
        {"touch", 0, 1}, {"touch", 0, 1}, {"least", 1, 5}, {"least", 1, 5}, {"dip", 0, 5}, {"dip", 0, 5}, {"grows"},
        {"grows"}, {"safe", 1, 99, 0, 4, 0, 2}, {"need", 0, 4, 0, 2}, {"worst", 1, 99, 0, 4, 0, 2}, {"sparing"},
        {"sparing"}, {"bears", 0, 600, 300, 2000}, {"bears", 200, 500, 300, 900},
        {"journey", 0, 5, 3, 9, 0, 5, 4, 7, 0, 3}, {"journey", 0, 5, 3, 9, 18, 23, 18, 23, 0, 3}, {"clear"},
        {"best", -1, 5}, {"best", -1, 4}, {"judge", 0, 32767}, {"judge", 0, 63},
        {"spared", 0, 5, 0, 5, 0, 99}, {"spared", 0, 5, 0, 5, 0, 9}, {"spared", 1, 3, 0, 2, 0, 99},
        {"together", 0, 63}, {"share", 0, 5, 1, 6, 0, 2}, {"share", 0, 3, 3, 6, 0, 2},
        {"clock", 0, 5, 0, 60}, {"clock", 0, 5, 0, 9}, {"event", 0, 5, 0, 999}, {"event", 0, 5, 400, 480},
        {"after", 0, 11, 0, 11, 0, 99}, {"after", 0, 11, 0, 11, 0, 20}, {"agree"}, {"span", 0, 11, 0, 1},
        {"span", 0, 5, 0, 1}, {"count", 0, 6}};
    private static final String[] WORDS = {"slow", "fast", "keep", "when", "and", "below", "above", "gap", "closing",
        "opening", "speed", "heard", "old", ";", "0", "9", "42", "100", "x", "keepx", "Keep", "\t"};
    private static final String[] READINGS = {"gap", "closing", "opening", "speed", "heard", "old"};

    private final Random random;
    private final CartRows x = new CartRows();
    private final Model model = new Model();
    private final List<String> told = new ArrayList<>();
    private int left = 512;

    private OracleTest(int seed) {
        random = new Random(seed);
    }

    public static void main(String[] args) throws ReflectiveOperationException {
        int runs = args.length > 0 ? Integer.parseInt(args[0]) : RUNS;
        int first = args.length > 1 ? Integer.parseInt(args[1]) : 0;
        for (int seed = first; seed < first + runs; seed++) {
            OracleTest run = new OracleTest(seed);
            if (!run.go()) {
                run.told.forEach(System.out::println);
                System.out.println("the last of these, of seed " + seed);
                System.exit(1);
            }
        }
        System.out.println(runs + " runs as the model has them");
    }

    private boolean go() throws ReflectiveOperationException {
        int calls = 20 + random.nextInt(493);
        left = calls;
        // each run leans towards some calls, so that states of all kinds come up
        Object[][] liked = new Object[12][];
        for (int i = 0; i < liked.length; i++) {
            liked[i] = CALLS[random.nextInt(CALLS.length)];
        }
        int wrong = random.nextInt(3) == 0 ? 5 : 25;
        if (random.nextInt(4) > 0 && !setUp()) {
            return false;
        }
        while (left > 0) {
            if (random.nextInt(12) == 0 && !putTable()) {
                return false;
            }
            Object[] call = random.nextBoolean() ? liked[random.nextInt(12)] : CALLS[random.nextInt(CALLS.length)];
            boolean dear = call[0].equals("need") || call[0].equals("best") || call[0].equals("share");
            if (dear && random.nextInt(4) > 0) {
                continue;
            }
            if (!ask(call, wrong)) {
                return false;
            }
        }
        return true;
    }

    /** A row that has something to hear, with tables for all. */
    private boolean setUp() throws ReflectiveOperationException {
        boolean right = same("row", random.nextInt(4096), 2 + random.nextInt(5));
        for (int make = 0; make < 4; make++) {
            right = right && putText(sentence()) && same("table", make);
        }
        right = right && same("set", 0, 5 + random.nextInt(35));
        return right && same("push", random.nextInt(8), -1 - random.nextInt(9));
    }

    private boolean ask(Object[] call, int wrong) throws ReflectiveOperationException {
        int[] numbers = new int[(call.length - 1) / 2];
        for (int i = 0; i < numbers.length; i++) {
            numbers[i] = number((int) call[1 + 2 * i], (int) call[2 + 2 * i], wrong);
        }
        return same((String) call[0], numbers);
    }

    private int number(int least, int most, int wrong) {
        if (random.nextInt(wrong) == 0) {
            int[] odd = {least - 1, most + 1, -1, 0, Integer.MIN_VALUE, Integer.MAX_VALUE, random.nextInt(), least, most};
            return odd[random.nextInt(odd.length)];
        }
        return (int) (least + (random.nextLong() >>> 1) % ((long) most - least + 1));
    }

    private boolean same(String name, int... numbers) throws ReflectiveOperationException {
        Class<?>[] types = new Class<?>[numbers.length];
        Object[] arguments = new Object[numbers.length];
        for (int i = 0; i < numbers.length; i++) {
            types[i] = int.class;
            arguments[i] = numbers[i];
        }
        Method ours = CartRows.class.getMethod(name, types);
        Method theirs = Model.class.getMethod(name, types);
        return sameAnswer(name + Arrays.toString(numbers), (int) ours.invoke(x, arguments),
            (int) theirs.invoke(model, arguments));
    }

    private boolean sameAnswer(String call, int got, int want) {
        left--;
        told.add(call + ": " + got + (got == want ? "" : ", due is " + want));
        return got == want;
    }

    private boolean putTable() throws ReflectiveOperationException {
        if (random.nextInt(3) > 0 && !same("erase")) {
            return false;
        }
        String text = random.nextInt(4) == 0 ? rubbish() : sentence();
        return putText(text) && same("fault") && same("table", random.nextInt(4));
    }

    private boolean putText(String text) {
        byte[] all = text.getBytes(StandardCharsets.ISO_8859_1);
        for (int from = 0; from < all.length; from += 8) {
            int n = Math.min(8, all.length - from);
            long bytes = Due.packed(all, from, n);
            if (!sameAnswer("write(" + bytes + ", " + n + ")", x.write(bytes, n), model.write(bytes, n))) {
                return false;
            }
        }
        return true;
    }

    private String sentence() {
        StringBuilder text = new StringBuilder();
        int lines = 1 + random.nextInt(4);
        for (int line = 0; line < lines; line++) {
            text.append(line == 0 ? "" : random.nextBoolean() ? ";" : " ; ");
            int kind = random.nextInt(7);
            text.append(kind == 0 ? "keep" : (kind < 5 ? "slow " : "fast ") + random.nextInt(kind < 5 ? 10 : 6));
            int tests = random.nextInt(lines == 1 ? 5 : 3);
            for (int test = 0; test < tests; test++) {
                text.append(test == 0 ? " when " : " and ");
                text.append(READINGS[random.nextInt(6)]).append(random.nextBoolean() ? " above " : " below ");
                text.append(random.nextInt(random.nextBoolean() ? 4 : 30));
            }
        }
        return text.toString();
    }

    private String rubbish() {
        StringBuilder text = new StringBuilder(random.nextInt(3) == 0 ? "" : sentence());
        if (random.nextBoolean()) {
            for (int words = 1 + random.nextInt(4); words > 0; words--) {
                text.append(random.nextInt(4) == 0 ? "" : " ").append(WORDS[random.nextInt(WORDS.length)]);
            }
        } else if (text.length() > 0) {
            text.setCharAt(random.nextInt(text.length()), (char) random.nextInt(256));
        }
        return text.toString();
    }
}
