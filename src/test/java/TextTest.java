/** Promises 3 to 6: THE TEXT, its FAULTS, and what TABLES make of it. */
public final class TextTest {
    private static final int NONE = CartRows.NONE, UNKNOWN = CartRows.UNKNOWN, OUTSIDE = CartRows.OUTSIDE,
        NOT = CartRows.NOT, FULL = CartRows.FULL;

    public static void main(String[] args) {
        write();
        erase();
        wholeTexts();
        faults();
        limitsOfLinesAndTests();
        table();
        wishes();
        readings();
        Due.end();
    }

    private static void write() {
        CartRows x = new CartRows();
        Due.due("write 0", x.write(0x6b, 0), OUTSIDE);
        Due.due("write 9", x.write(0x6b, 9), OUTSIDE);
        Due.due("write -1", x.write(0x6b, -1), OUTSIDE);
        Due.due("nothing written", x.count(6), 0);
        Due.due("write keep, lowest byte first", x.write(0x7065656bL, 4), 4);
        Due.due("it is keep", x.fault(), NONE);
        Due.due("bytes above n are not written", x.write(0x6565656565656520L, 1), 5);
        Due.due("it is keep and a blank", x.fault(), NONE);
        Due.due("bytes of 8, the sign's bit too", x.write(0xff20202020202020L, 8), 13);
        Due.due("the eighth is no blank", x.fault(), 12);
        x.erase();
        for (int i = 1; i <= 19; i++) {
            Due.due("write " + i, x.write(0x2020202020202020L, 8), 8 * i);
        }
        Due.due("write 4", x.write(0x7065656bL, 4), 156);
        Due.due("write 5, full", x.write(0, 5), FULL);
        Due.due("outside ahead of full", x.write(0, 9), OUTSIDE);
        Due.due("as long as it was", x.count(6), 156);
        Due.due("write 4 more", x.write(0x2020203bL, 4), 160);
        Due.due("write 1, full", x.write(0, 1), FULL);
        Due.due("the end of 160 comes too soon", x.fault(), 160);
    }

    private static void erase() {
        CartRows x = new CartRows();
        Due.due("erase nothing", x.erase(), 0);
        Due.put(x, "keep when");
        Due.due("erase", x.erase(), 9);
        Due.due("empty", x.count(6), 0);
        Due.due("fault of nothing", x.fault(), 0);
        Due.put(x, "keep");
        Due.due("nothing is left of the old one", x.fault(), NONE);
    }

    private static void wholeTexts() {
        String[] whole = {"keep", "slow 0", "fast 99", "slow 07", " keep ", "keep ; keep", "keep;keep",
            "slow 3 when gap below 9", "fast 12 when closing above 0 and opening below 99",
            "keep when speed above 3 and heard below 4 and old above 5 and gap below 6",
            "slow9when gap below3and old above2;fast1", "   slow   5   ;   fast   6   "};
        for (String text : whole) {
            fault(text, NONE);
        }
    }

    private static void faults() {
        fault("", 0);
        fault("   ", 3);
        fault(";", 0);
        fault("keep;", 5);
        fault("keep; ", 6);
        fault("keep;;keep", 5);
        fault("slow", 4);
        fault("slow ", 5);
        fault("fast", 4);
        fault("slow x", 5);
        fault("slow 100", 5);
        fault("slow 001", 5);
        fault("slow -1", 5);
        fault("slow 1 2", 7);
        fault("slow 12 keep", 8);
        fault("keep 1", 5);
        fault("keep keep", 5);
        fault("keepkeep", 0);
        fault("kee", 0);
        fault("keeps", 0);
        fault("keepa", 0);
        fault("keepz", 0);
        fault("keep{", 4);
        fault("keep`", 4);
        fault("slow 9/", 6);
        fault("slow 9:", 6);
        fault("Keep", 0);
        fault("keeP", 0);
        fault("keepX", 4);
        fault("9", 0);
        fault("when gap below 3", 0);
        fault("keep when", 9);
        fault("keep when ;", 10);
        fault("keep when gap", 13);
        fault("keep when gap below", 19);
        fault("keep when gap below ;", 20);
        fault("keep when gap below 100", 20);
        fault("keep when gap above a", 20);
        fault("keep when gap 3", 14);
        fault("keep when gaps below 3", 10);
        fault("keep when below 3", 10);
        fault("keep when gap below 3 and", 25);
        fault("keep when gap below 3 and ; keep", 26);
        fault("keep when gap below 3 or old below 3", 22);
        fault("keep when gap below 3 when gap below 3", 22);
        fault("keep and gap below 3", 5);
        fault("keep when gap below 3 4", 22);
        fault("keep\tkeep", 4);
        fault("keep\n", 4);
        fault("keep\u0000", 4);
        fault("keep" + (char) 233, 4);
        fault((char) 128 + "keep", 0);
        fault("keep,keep", 4);
        fault("keep when gap below 3, keep", 21);
        fault("keep; slow 5 ; keeq", 15);
    }

    private static void limitsOfLinesAndTests() {
        fault("keep;keep;keep;keep;keep;keep", NONE);
        fault("keep;keep;keep;keep;keep;keep;", 29);
        fault("keep;keep;keep;keep;keep;keep ;keep", 30);
        fault("keep;keep;keep;keep;keep;keep keep", 30);
        fault("keep when gap below 1 and gap below 1 and gap below 1 and gap below 1", NONE);
        fault("keep when gap below 1 and gap below 1 and gap below 1 and gap below 1 and", 70);
        fault("keep when gap below 1 and gap below 1 and gap below 1 and gap below 1;keep", NONE);
        fault("keep;slow 1 when old above 1 and old above 1 and old above 1 and old above 1 and old above 1", 77);
    }

    private static void fault(String text, int want) {
        CartRows x = new CartRows();
        Due.put(x, text);
        Due.due("fault of '" + text + "'", x.fault(), want);
        Due.due("fault again of '" + text + "'", x.fault(), want);
        int lines = text.split(";", -1).length;
        Due.due("table of '" + text + "'", x.table(2), want == NONE ? lines : NOT);
        Due.due("length behind table of '" + text + "'", x.count(6), want == NONE ? 0 : text.length());
    }

    private static void table() {
        CartRows x = new CartRows();
        Due.due("table of nothing", x.table(0), NOT);
        Due.due("unknown ahead of not", x.table(4), UNKNOWN);
        Due.due("unknown", x.table(-1), UNKNOWN);
        x.row(4, 3);
        Due.tell(x, 1, "slow 1");
        Due.due("the table is of make 1", x.at(1, 0, 3), -1);
        Due.due("and not of make 0", x.at(2, 0, 3), 0);
        Due.put(x, "fast 1; sloow");
        Due.due("table with a fault", x.table(1), NOT);
        Due.due("the table is kept", x.at(1, 0, 3), -1);
        Due.due("the text is kept", x.count(6), 13);
        Due.due("a fault is asked for", x.fault(), 8);
        Due.due("and leaves the tables alone", x.at(1, 0, 3), -1);
        x.erase();
        Due.put(x, "fast 2");
        Due.due("unknown with a whole text", x.table(4), UNKNOWN);
        Due.due("the text is kept", x.count(6), 6);
        Due.due("table anew", x.table(1), 1);
        Due.due("it holds", x.at(1, 0, 3), 2);
        Due.due("the text is empty", x.count(6), 0);
        Due.tell(x, 0, "slow 3");
        Due.due("two makes, two tables", x.at(2, 0, 3), -3);
        Due.due("that of make 1 stays", x.at(1, 0, 3), 2);
        x.make(1, 1, 1, 1, 0);
        Due.due("make leaves the table, by its pull", x.at(1, 0, 3), 1);
    }

    /** The wish of a lorry of brake 4 and pull 2 in the first tick: gap 10, speed 20, heard 0, old 99. */
    private static void wish(String text, int want) {
        CartRows x = new CartRows();
        x.row(0, 2);
        Due.tell(x, 0, text);
        Due.due("wish by '" + text + "'", x.at(1, 0, 3), want);
    }

    private static void wishes() {
        wish("keep", 0);
        wish("slow 3", -3);
        wish("slow 4", -4);
        wish("slow 5", -4);
        wish("slow 99", -4);
        wish("slow 0", 0);
        wish("fast 1", 1);
        wish("fast 2", 2);
        wish("fast 3", 2);
        wish("slow 1; slow 2", -1);
        wish("slow 1 when gap below 10; slow 2", -2);
        wish("slow 1 when gap below 10; slow 2 when gap above 10", 0);
        wish("slow 1 when gap below 11; slow 2", -1);
        wish("slow 1 when gap above 9; slow 2", -1);
        wish("keep when gap above 9; slow 2", 0);
        wish("slow 1 when gap above 9 and speed above 20; fast 1 when gap above 9 and speed above 19", 1);
        wish("slow 1 when gap below 99 and gap below 99 and gap below 99 and gap below 1; slow 2", -2);
        wish("slow 1 when gap below 99 and gap below 99 and gap below 99 and gap below 11; slow 2", -1);
        wish("slow 1 when old above 98 and heard below 1", -1);
        wish("slow 1 when old below 99; slow 2 when heard above 0; slow 3 when closing above 0; fast 1", 1);
        wish("slow 1 when old below 9;slow 1 when old below 9;slow 1 when old below 9;slow 1 when old below 9;"
            + "slow 1 when old below 9;fast 2", 2);
    }

    /** Lorry 1 with a stranger of a speed ahead of it from the first tick, gap 10 / 2. */
    private static void reading(String test, int speed, boolean holds) {
        CartRows x = new CartRows();
        x.row(0, 2);
        x.stranger(1, 0, 0, speed);
        Due.tell(x, 0, "fast 1 when " + test);
        Due.due(test + " by speed " + speed, x.at(1, 0, 3), holds ? 1 : 0);
    }

    private static void readings() {
        reading("gap below 6", 20, true);
        reading("gap below 5", 20, false);
        reading("gap above 4", 20, true);
        reading("closing above 4", 15, true);
        reading("closing above 5", 15, false);
        reading("closing below 1", 25, true);
        reading("opening above 4", 25, true);
        reading("opening above 5", 25, false);
        reading("opening below 1", 15, true);
        reading("speed above 19", 15, true);
        reading("speed below 20", 15, false);
        reading("heard below 1", 15, true);
        reading("old above 98", 15, true);
        CartRows x = new CartRows();
        x.row(0, 2);
        x.set(0, 99);
        x.push(0, 5);
        Due.tell(x, 0, "slow 1 when gap above 99; fast 1 when gap above 98");
        Due.due("a gap is read as 99 at most", x.at(1, 1, 3), 1);
        Due.due("though it is more", x.at(1, 0, 1), 100);
    }
}
