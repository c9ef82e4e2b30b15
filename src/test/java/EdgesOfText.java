/** Edges of THE TEXT, its FAULTS and TABLES: promises 3 to 6. */
final class EdgesOfText {
    private static final int NONE = CartRows.NONE, UNKNOWN = CartRows.UNKNOWN, OUTSIDE = CartRows.OUTSIDE,
        NOT = CartRows.NOT, FULL = CartRows.FULL;
    private static final int LEAST = Integer.MIN_VALUE, GREATEST = Integer.MAX_VALUE;
    private static final String FOUR_TESTS = " when gap above 1 and gap above 2 and gap above 3 and gap above 4";

    private EdgesOfText() {
    }

    static void check() {
        bytesAtMost();
        linesAtMost();
        kindsOfLines();
        testsAtMost();
        readingsAndNumbers();
        signs();
        belowAndAbove();
        faultAtToken();
        wholeIsTable();
        wishByTable();
        write();
        erase();
        fault();
        table();
    }

    private static CartRows with(String text) {
        CartRows x = new CartRows();
        Due.put(x, text);
        return x;
    }

    private static void faultIs(String text, int want) {
        CartRows x = with(text);
        Due.due("fault of '" + text + "'", x.fault(), want);
        Due.due("table of '" + text + "'", x.table(3), want == NONE ? text.split(";", -1).length : NOT);
        Due.due("bytes behind that", x.count(6), want == NONE ? 0 : text.length());
    }

    /** The wish of lorry 1, of brake 4 and pull 2, in tick 0: gap 10, speed 20, closing, opening and heard 0, old 99. */
    private static void wishIs(String text, int want) {
        CartRows x = Due.followers(2, text);
        Due.due("wish by '" + text + "'", x.at(1, 0, 3), want);
    }

    /** A text of so many bytes, blanks ahead of what is to stand at its end. */
    private static String endingWith(int bytes, String end) {
        return " ".repeat(bytes - end.length()) + end;
    }

    private static void bytesAtMost() {
        Doc.says("THE TEXT is a row of bytes, 160 at most:");
        CartRows x = new CartRows();
        for (int i = 1; i <= 20; i++) {
            Due.due("bytes", x.write(0x2020202020202020L, 8), 8 * i);
        }
        Due.due("one more", x.write(0x20, 1), FULL);
        Due.due("160 it is", x.count(6), 160);
        for (int n = 1; n <= 7; n++) {
            x = with(endingWith(160 - n, "keep"));
            Due.due("one too many by " + (n + 1), x.write(0x2020202020202020L, n + 1), FULL);
            Due.due("the text is as it was", x.count(6), 160 - n);
            Due.due("and whole", x.fault(), NONE);
            Due.due("to the last byte by " + n, x.write(0x2020202020202020L, n), 160);
            Due.due("still whole", x.fault(), NONE);
        }
        String long1 = "slow 1 when gap below 1 and gap below 1 and gap below 1 and gap below 1;";
        x = Due.followers(2, long1 + long1 + endingWith(160 - 2 * long1.length(), "fast 2"));
        Due.due("a table of 160 bytes, to its last", x.at(1, 0, 3), 2);
        x = Due.followers(2, long1 + long1 + endingWith(160 - 2 * long1.length(), "slow 3"));
        Due.due("another one", x.at(1, 0, 3), -3);
        faultIs(endingWith(160, "keep;"), 160);
        faultIs(endingWith(160, "keep x"), 159);
        faultIs(endingWith(160, "keeps"), 155);
        faultIs(endingWith(160, "slow 99"), NONE);
        faultIs(" ".repeat(160), 160);
    }

    private static void linesAtMost() {
        Doc.says("LINES with ; (59) between, 6 at most;");
        faultIs("keep", NONE);
        faultIs("keep;keep", NONE);
        faultIs("keep;keep;keep;keep;keep;keep", NONE);
        faultIs("keep;keep;keep;keep;keep;keep;", 29);
        faultIs("keep;keep;keep;keep;keep;keep;keep", 29);
        faultIs("keep ; keep ; keep ; keep ; keep ; keep ;", 40);
        faultIs("", 0);
        faultIs(";keep", 0);
        faultIs("keep;", 5);
        faultIs("keep;;keep", 5);
        faultIs("keep; ;keep", 6);
        faultIs("keep keep", 5);
        // the bytes beside 59 are no ;
        faultIs("keep:keep", 4);
        faultIs("keep<keep", 4);
        wishIs("keep when gap below 1;keep when gap below 1;keep when gap below 1;keep when gap below 1;"
            + "keep when gap below 1;fast 1", 1);
    }

    private static void kindsOfLines() {
        Doc.says("each is slow N, fast N, or keep,");
        faultIs("slow 0", NONE);
        faultIs("slow 99", NONE);
        faultIs("slow 100", 5);
        faultIs("slow", 4);
        faultIs("slow ;keep", 5);
        faultIs("slow when gap below 1", 5);
        faultIs("fast 0", NONE);
        faultIs("fast 99", NONE);
        faultIs("fast 100", 5);
        faultIs("fast", 4);
        faultIs("fast keep", 5);
        faultIs("keep", NONE);
        faultIs("keep 0", 5);
        faultIs("stop", 0);
        faultIs("gap below 1", 0);
        faultIs("5", 0);
    }

    private static void testsAtMost() {
        Doc.says("and behind it, if it is told, when TEST and TEST .. (1 to 4 of them);");
        for (String wish : new String[] {"slow 3", "fast 12", "keep"}) {
            int at = wish.length();
            faultIs(wish, NONE);
            faultIs(wish + " when", at + 5);
            faultIs(wish + " when ;keep", at + 6);
            faultIs(wish + " when gap below 1", NONE);
            faultIs(wish + " when gap below 1 and gap below 2", NONE);
            faultIs(wish + " when gap below 1 and gap below 2 and gap below 3", NONE);
            faultIs(wish + FOUR_TESTS, NONE);
            faultIs(wish + FOUR_TESTS + ";keep", NONE);
            faultIs(wish + FOUR_TESTS + " and gap above 5", at + FOUR_TESTS.length() + 1);
            faultIs(wish + FOUR_TESTS + " and", at + FOUR_TESTS.length() + 1);
            faultIs(wish + " when gap below 1 and", at + 21);
            faultIs(wish + " when gap below 1 and;keep", at + 21);
            faultIs(wish + " when gap below 1 gap below 2", at + 18);
            faultIs(wish + " when gap below 1 when gap below 2", at + 18);
            faultIs(wish + " and gap below 1", at + 1);
        }
        // four in each of two lines: they are counted for each line
        faultIs("keep" + FOUR_TESTS + ";keep" + FOUR_TESTS, NONE);
        wishIs("fast 1" + FOUR_TESTS, 1);
        wishIs("fast 1 when gap above 1 and gap above 2 and gap above 3 and gap above 10", 0);
    }

    private static void readingsAndNumbers() {
        Doc.says("a TEST is R below N, or R above N: R one of gap closing opening speed heard old, N 0 .. 99");
        for (String reading : new String[] {"gap", "closing", "opening", "speed", "heard", "old"}) {
            int at = "keep when ".length() + reading.length() + 1;
            for (String side : new String[] {"below", "above"}) {
                String test = "keep when " + reading + " " + side;
                faultIs(test + " 0", NONE);
                faultIs(test + " 00", NONE);
                faultIs(test + " 9", NONE);
                faultIs(test + " 10", NONE);
                faultIs(test + " 99", NONE);
                faultIs(test + " 100", at + 6);
                faultIs(test + " 000", at + 6);
                faultIs(test, at + 5);
                faultIs(test + " -1", at + 6);
                faultIs(test + " gap", at + 6);
            }
            faultIs("keep when " + reading, at - 1);
            faultIs("keep when " + reading + " 5", at);
            faultIs("keep when " + reading + " equals 5", at);
            faultIs("keep when " + reading + "s below 5", 10);
            faultIs("keep when " + reading.substring(1) + " below 5", 10);
        }
        faultIs("keep when below 5", 10);
        faultIs("keep when wait below 5", 10);
        faultIs("keep when 5 above gap", 10);
    }

    private static void signs() {
        Doc.says("(as written here; small letters a .. z, numbers of 1 or 2 digits, blanks (32) between;");
        String all = "slow 1;fast 1;keep when gap below 1 and closing above 1 and opening below 1 and speed above 1;"
            + "keep when heard below 1 and old above 1";
        faultIs(all, NONE);
        // each letter of each word counts
        int begin = 0;
        for (int i = 0; i < all.length(); i++) {
            boolean letter = Character.isLetter(all.charAt(i));
            begin = letter && i > 0 && Character.isLetter(all.charAt(i - 1)) ? begin : i;
            if (letter) {
                char other = all.charAt(i) == 'z' ? 'y' : (char) (all.charAt(i) + 1);
                faultIs(all.substring(0, i) + other + all.substring(i + 1), begin);
            }
        }
        faultIs("Keep", 0);
        faultIs("KEEP", 0);
        faultIs("keeP", 0);
        faultIs("keep when Gap below 5", 10);
        // the bytes beside a .. z and 0 .. 9 belong to no row of letters or digits
        faultIs("keep`", 4);
        faultIs("keep{", 4);
        faultIs("keepA", 4);
        faultIs("keepZ", 4);
        faultIs("keep wHEN gap below 1", 5);
        faultIs("keepa", 0);
        faultIs("keepz", 0);
        faultIs("slow 9/", 6);
        faultIs("slow 9:", 6);
        faultIs("slow 90", NONE);
        faultIs("slow 9", NONE);
        faultIs("slow 009", 5);
        faultIs("  keep   when  gap   below   5   and old above  6  ; slow   7  ", NONE);
        // the bytes beside 32 are no blanks, and no other white one is
        for (int sign : new int[] {0, 9, 10, 11, 12, 13, 31, 33, 127, 128, 160, 255}) {
            faultIs("slow" + (char) sign + "1", 4);
            faultIs((char) sign + "keep", 0);
            faultIs("keep" + (char) sign, 4);
        }
    }

    private static void belowAndAbove() {
        Doc.says("below: less; above: greater).");
        wishIs("fast 1 when gap below 11", 1);
        wishIs("fast 1 when gap below 10", 0);
        wishIs("fast 1 when gap below 9", 0);
        wishIs("fast 1 when gap above 9", 1);
        wishIs("fast 1 when gap above 10", 0);
        wishIs("fast 1 when gap above 11", 0);
        wishIs("fast 1 when heard below 0", 0);
        wishIs("fast 1 when heard below 1", 1);
        wishIs("fast 1 when heard above 0", 0);
        wishIs("fast 1 when old below 99", 0);
        wishIs("fast 1 when old above 98", 1);
        wishIs("fast 1 when old above 99", 0);
    }

    private static void faultAtToken() {
        Doc.says("A FAULT is at the first TOKEN (a row of letters, a row of digits, any other byte) that cannot stand "
            + "there, a number out of its bounds also, or at the end, if it comes too soon.");
        faultIs("keep xyz abc", 5);
        faultIs("keep    xyz", 8);
        faultIs("keepxyz", 0);
        faultIs("keep 123456", 5);
        faultIs("slow 123456", 5);
        faultIs("slow x1", 5);
        faultIs("slow 1x", 6);
        faultIs("keep !!", 5);
        faultIs("keep when gap below !1", 20);
        faultIs("keep when gap !below 1", 14);
        faultIs("slow 100 x", 5);
        faultIs("slow 1;slow 2;slow 999;x", 19);
        faultIs("keep when gap below 100 and", 20);
        for (String soon : new String[] {"", "slow", "fast", "keep when", "keep when gap", "keep when gap below",
            "keep when gap below 1 and", "keep when gap below 1 and old", "keep;", "keep;slow"}) {
            faultIs(soon, soon.length());
            faultIs(soon + "   ", soon.length() + 3);
        }
    }

    private static void wholeIsTable() {
        Doc.says("Without FAULT it may be a make's TABLE.");
        for (int make = 0; make < 4; make++) {
            CartRows x = with("fast 1;slow 2");
            x.row(make << 2, 2);
            Due.due("table of make " + make, x.table(make), 2);
            Due.due("its wish", x.at(1, 0, 3), 1);
            Due.put(x, "slow 2;fast");
            Due.due("with a fault", x.table(make), NOT);
            Due.due("its wish is as it was", x.at(1, 0, 3), 1);
        }
    }

    private static void wishByTable() {
        Doc.says("WISH by a TABLE: that of the first LINE all of whose TESTS hold: slow N: -N, BRAKE at most; fast N: N, "
            + "PULL at most; keep, and if none holds: 0.");
        wishIs("slow 0", 0);
        wishIs("slow 3", -3);
        wishIs("slow 4", -4);
        wishIs("slow 5", -4);
        wishIs("slow 99", -4);
        wishIs("fast 0", 0);
        wishIs("fast 1", 1);
        wishIs("fast 2", 2);
        wishIs("fast 3", 2);
        wishIs("fast 99", 2);
        wishIs("keep;slow 1", 0);
        wishIs("slow 1;slow 2", -1);
        wishIs("slow 1 when gap above 10;slow 2 when gap below 10", 0);
        wishIs("slow 1 when gap above 10;slow 2 when gap below 11", -2);
        wishIs("slow 1 when gap above 9 and speed above 20;slow 2", -2);
        wishIs("slow 1 when speed above 20 and gap above 9;slow 2", -2);
        wishIs("slow 1 when speed above 19 and gap above 9;slow 2", -1);
        wishIs("slow 1 when gap below 1;slow 1 when gap below 2;slow 1 when gap below 3;slow 1 when gap below 4;"
            + "slow 1 when gap below 5;slow 1 when gap below 6", 0);
        CartRows x = Due.followers(2, "slow 99");
        x.make(1, 1, 9, 5, 0);
        Due.due("the greatest brake", x.at(1, 0, 3), -9);
        x.make(1, 1, 1, 1, 0);
        Due.due("the least brake", x.at(1, 0, 3), -1);
        Due.tell(x, 1, "fast 99");
        Due.due("the least pull", x.at(1, 0, 3), 1);
        x.make(1, 1, 9, 5, 0);
        Due.due("the greatest pull", x.at(1, 0, 3), 5);
    }

    private static void write() {
        Doc.says("n (1 .. 8) bytes more of THE TEXT, byte i being bytes >> 8 i & 255: how many it has. OUTSIDE; FULL.");
        for (int n : new int[] {0, -1, 9, LEAST, GREATEST}) {
            CartRows x = with("keep");
            Due.due("write of " + n, x.write(0x2020202020202020L, n), OUTSIDE);
            Due.due("4 as before", x.count(6), 4);
            Due.due("whole as before", x.fault(), NONE);
        }
        // byte n - 1 is the last that is written: the ! behind it is not
        for (int n = 1; n <= 8; n++) {
            CartRows x = with("keep");
            long blanks = 0x2020202020202020L;
            long thenSign = n == 8 ? blanks : blanks & ~(255L << 8 * n) | 0x21L << 8 * n;
            Due.due("blanks, " + n, x.write(thenSign, n), 4 + n);
            Due.due("no ! among " + n, x.fault(), NONE);
            x = with("keep");
            int last = 8 * (n - 1);
            Due.due("blanks and a !, " + n, x.write(blanks & ~(255L << last) | 0x21L << last, n), 4 + n);
            Due.due("the ! of " + n, x.fault(), 4 + n - 1);
        }
        CartRows x = new CartRows();
        Due.due("the lowest byte is the first", x.write(0x7065656bL, 4), 4);
        Due.due("keep", x.fault(), NONE);
        Due.due("all bits", x.write(-1L, 8), 12);
        Due.due("they are 255 each", x.fault(), 4);
        x = with("keep");
        Due.due("the sign's bit, and blanks", x.write(0x8020202020202020L, 8), 12);
        Due.due("128 is the eighth", x.fault(), 11);
        x = with(endingWith(153, "keep"));
        Due.due("eight are too many for 7", x.write(0x2020202020202020L, 8), FULL);
        Due.due("outside ahead of full", x.write(0x2020202020202020L, 9), OUTSIDE);
        Due.due("as many as it had", x.count(6), 153);
        Due.due("seven", x.write(0x2020202020202020L, 7), 160);
        Due.due("none is outside, full or not", x.write(0, 0), OUTSIDE);
        Due.due("one is too many", x.write(0, 1), FULL);
        Due.due("whole to the last", x.fault(), NONE);
    }

    private static void erase() {
        Doc.says("THE TEXT is empty: how many bytes it had.");
        for (int bytes : new int[] {0, 1, 8, 159, 160}) {
            CartRows x = with(" ".repeat(bytes));
            Due.due("erase", x.erase(), bytes);
            Due.due("erased", x.count(6), 0);
            Due.due("erase nothing", x.erase(), 0);
            Due.due("the fault of nothing", x.fault(), 0);
            Due.due("no table of it", x.table(0), NOT);
            Due.due("it begins anew", x.write(0x7065656bL, 4), 4);
            Due.due("with that alone", x.fault(), NONE);
        }
        CartRows x = Due.followers(2, "slow 1");
        Due.put(x, "fast 1");
        x.erase();
        Due.due("tables stay", x.at(1, 0, 3), -1);
    }

    private static void fault() {
        Doc.says("The place of the FAULT (the byte with which the TOKEN begins, or the length); NONE.");
        CartRows x = with("keep; slow 5 when gapp below 3");
        Due.due("where it begins", x.fault(), 18);
        Due.due("asked again", x.fault(), 18);
        Due.due("the text stays", x.erase(), 30);
        Due.put(x, "keep; slow");
        Due.due("the length", x.fault(), 10);
        Due.due("and going on", x.write(0x3520, 2), 12);
        Due.due("none", x.fault(), NONE);
        Due.due("a digit more", x.write(0x35, 1), 13);
        Due.due("none still", x.fault(), NONE);
        Due.due("one too many", x.write(0x35, 1), 14);
        Due.due("the number begins there", x.fault(), 11);
        x = with("x");
        Due.due("at 0", x.fault(), 0);
        x = Due.followers(2, "fast 1");
        Due.put(x, "slow 1; slow 1; slow 1");
        Due.due("asking makes no table", x.fault() + x.at(1, 0, 3), NONE + 1);
    }

    private static void table() {
        Doc.says("THE TEXT becomes the TABLE of a MAKE, and is empty then: how many LINES. UNKNOWN; NOT: it has a FAULT.");
        String text = "slow 1";
        for (int lines = 1; lines <= 6; lines++) {
            CartRows x = with(text);
            Due.due("table of " + lines, x.table(0), lines);
            Due.due("empty then", x.count(6), 0);
            Due.due("and nothing is no table", x.table(0), NOT);
            text += ";slow 1";
        }
        for (int make : new int[] {-1, 4, LEAST, GREATEST}) {
            CartRows x = with("keep");
            Due.due("no make " + make, x.table(make), UNKNOWN);
            Due.due("the text stays", x.count(6), 4);
            Due.due("whole", x.fault(), NONE);
            x = with("keep;");
            Due.due("unknown ahead of not", x.table(make), UNKNOWN);
            Due.due("with its fault", x.table(0), NOT);
            Due.due("it stays", x.count(6), 5);
        }
        manyTables();
        nothingIsLeft();
    }

    /** Of a text that was read ahead of this one, or a table that this one takes the place of. */
    private static void nothingIsLeft() {
        String[] before = {"slow 1 when gap below 1;slow 2;slow 3;slow 4;slow 4;slow 4",
            "fast 1 when gap below 1 and gap below 1 and gap below 1 and gap below 1;fast 2 when gap below 1"};
        String[] then = {"slow 3", "keep", "fast 1 when gap below 1", "fast 1 when gap below 11",
            "slow 1 when gap below 1;keep", "slow 1 when gap below 1;slow 2"};
        int[] wishes = {-3, 0, 0, 1, 0, -2};
        for (String old : before) {
            for (int i = 0; i < then.length; i++) {
                CartRows x = Due.followers(2, old);
                for (int round = 0; round < 3; round++) {
                    x.erase();
                    Due.put(x, old);
                    Due.due("read, but no table", x.fault(), NONE);
                    Due.tell(x, 1, then[i]);
                    Due.due("'" + then[i] + "' behind '" + old + "'", x.at(1, 0, 3), wishes[i]);
                    Due.tell(x, 1, old);
                    Due.tell(x, 1, then[i]);
                    Due.due("'" + then[i] + "' in place of '" + old + "'", x.at(1, 0, 3), wishes[i]);
                }
            }
        }
    }

    /** Each make keeps its own table, however often they are told anew and refused between. */
    private static void manyTables() {
        CartRows x = new CartRows();
        x.row(0b11_10_01_00_00, 5);
        int[] told = new int[4];
        for (int round = 0; round < 12; round++) {
            int make = round * 3 % 4;
            told[make] = 1 + round % 4;
            Due.tell(x, make, "slow " + told[make] + (round % 2 == 0 ? " when gap above 0" : ";fast 2"));
            Due.put(x, "fast 1;fast 1;fast 1 when gap below");
            Due.due("refused", x.table(make), NOT);
            for (int lorry = 1; lorry < 5; lorry++) {
                Due.due("wish of make " + (lorry - 1), x.at(lorry, 0, 3), -told[lorry - 1]);
            }
        }
    }
}
