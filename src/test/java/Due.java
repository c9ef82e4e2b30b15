import java.nio.charset.StandardCharsets;

/** What the tests share: counting wrong answers, and putting a text into an object. */
final class Due {
    static final int LEAST_INT = Integer.MIN_VALUE;

    private static int wrong = 0;
    private static int asked = 0;

    private Due() {
    }

    static void due(String call, long got, long want) {
        asked++;
        if (got != want) {
            wrong++;
            System.out.println(call + " answered " + got + ", due is " + want + Doc.sentenceInBrackets());
        }
    }

    static void holds(String what, boolean holds) {
        due(what, holds ? 1 : 0, 1);
    }

    static int asked() {
        return asked;
    }

    static void end() {
        System.out.println(asked + " answers, " + wrong + " not as due");
        if (wrong != 0) {
            System.exit(1);
        }
    }

    /** Adds all of a text (of signs 0 to 255) by calls of write. */
    static void put(CartRows x, String text) {
        byte[] all = text.getBytes(StandardCharsets.ISO_8859_1);
        for (int from = 0; from < all.length; from += 8) {
            int n = Math.min(8, all.length - from);
            int got = x.write(packed(all, from, n), n);
            if (got < 0) {
                due("write of " + text, got, from + n);
            }
        }
    }

    static long packed(byte[] all, int from, int n) {
        long bytes = 0;
        for (int i = n - 1; i >= 0; i--) {
            bytes = bytes << 8 | all[from + i] & 255;
        }
        return bytes;
    }

    /** Puts a text and makes it the table of a make. */
    static void tell(CartRows x, int make, String text) {
        x.erase();
        put(x, text);
        int lines = text.split(";", -1).length;
        due("table of " + text, x.table(make), lines);
    }

    /** n lorries: the first of make 0, the others of make 1, which has this table. */
    static CartRows followers(int n, String table) {
        CartRows x = new CartRows();
        x.row(0b010101010100, n);
        tell(x, 1, table);
        return x;
    }
}
