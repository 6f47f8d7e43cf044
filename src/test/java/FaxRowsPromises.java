/** Each promise of the document by hand-made runs of calls: the ordinary, the edges, the wrong. */
public final class FaxRowsPromises {
    private static final String MARK = "000000000001";
    private static final String SIX_MARKS = MARK + MARK + MARK + MARK + MARK + MARK;
    private static final int[] ODD = {
        -1, Integer.MIN_VALUE, Integer.MAX_VALUE, Integer.MIN_VALUE + 1, Integer.MAX_VALUE - 1,
    };

    private static int wrong = 0;

    private static void due(String what, long got, long want) {
        if (got != want) {
            wrong++;
            System.out.println(what + " answered " + got + ", due is " + want);
        }
    }

    private static void due(String what, boolean got, boolean want) {
        due(what, got ? 1 : 0, want ? 1 : 0);
    }

    private static void due(String what, String got, String want) {
        if (!got.equals(want)) {
            wrong++;
            System.out.println(what + " answered " + got + ", due is " + want);
        }
    }

    private static String bare(String bits) {
        return bits.replace("M", MARK).replace(" ", "");
    }

    /** With 0 up to a whole byte; M stands for a mark. */
    private static String padded(String bits) {
        StringBuilder text = new StringBuilder(bare(bits));
        while (text.length() % 8 != 0) {
            text.append('0');
        }
        return text.toString();
    }

    private static void feedBits(FaxRows x, String bits) {
        String text = padded(bits);
        for (int i = 0; i < text.length(); i += 8) {
            due("feed", x.feed(Integer.parseInt(text.substring(i, i + 8), 2)), true);
        }
    }

    private static FaxRows fed(int kind, int width, String bits) {
        FaxRows x = new FaxRows(kind, width);
        feedBits(x, bits);
        return x;
    }

    private static String writtenBits(FaxRows x) {
        int count = x.encode();
        StringBuilder text = new StringBuilder();
        for (int i = 0; i < count; i++) {
            text.append(Integer.toBinaryString(256 + x.byteAt(i)).substring(1));
        }
        due("byteAt behind the end", x.byteAt(count), FaxRows.NONE);
        return text.toString();
    }

    /** A row, X for black; shorter ones are white to the end. */
    private static void row(FaxRows x, String samples) {
        for (int i = 0; i < samples.length(); i++) {
            if (samples.charAt(i) == 'X') {
                due("put", x.put(i, true), true);
            }
        }
        due("endRow", x.endRow(), true);
    }

    private static String readRow(FaxRows x, int y, int width) {
        StringBuilder text = new StringBuilder();
        for (int i = 0; i < width; i++) {
            text.append(x.at(i, y) ? 'X' : '.');
        }
        return text.toString();
    }

    private static String changes(FaxRows x, int row) {
        StringBuilder text = new StringBuilder();
        for (int k = 0; x.changes(row, k) != FaxRows.NONE; k++) {
            text.append(x.changes(row, k)).append(' ');
        }
        return text.toString().trim();
    }

    private static String modes(FaxRows x, int row) {
        StringBuilder text = new StringBuilder();
        for (int k = 0; x.mode(row, k) != FaxRows.NONE; k++) {
            text.append(x.mode(row, k)).append(' ');
        }
        return text.toString().trim();
    }

    /** 1 if the call throws what the document says, else 0. */
    private static int throwsAt(FaxRows x, int i, int y) {
        try {
            x.at(i, y);
            return 0;
        } catch (ArrayIndexOutOfBoundsException e) {
            return 1;
        }
    }

    private static void nothingRead(String what, FaxRows x) {
        due(what + ": at", x.at(0, 0), false);
        due(what + ": damaged", x.damaged(0), false);
        due(what + ": changes", x.changes(0, 0), FaxRows.NONE);
        due(what + ": mode", x.mode(0, 0), FaxRows.NONE);
    }

    private static void promise1() {
        int[] kinds = {Integer.MIN_VALUE, -1, 0, 1, 2, 3, Integer.MAX_VALUE};
        int[] bytesWithoutRows = {9, 9, 9, 10, 3, 3, 3};
        for (int i = 0; i < kinds.length; i++) {
            due("1: kind " + kinds[i], new FaxRows(kinds[i], 7).encode(), bytesWithoutRows[i]);
        }
        int[] widths = {Integer.MIN_VALUE, -1, 0, 1, 2, 2999, 3000, 3001, Integer.MAX_VALUE};
        int[] nearest = {1, 1, 1, 1, 2, 2999, 3000, 3000, 3000};
        for (int i = 0; i < widths.length; i++) {
            FaxRows x = new FaxRows(0, widths[i]);
            due("1: last sample of " + widths[i], x.put(nearest[i] - 1, true), true);
            due("1: one more than " + widths[i], x.put(nearest[i], true), false);
        }
        FaxRows x = new FaxRows(0, 7);
        nothingRead("1: new", x);
        due("1: new: decode", x.decode(), -1);
        due("1: new: byteAt", x.byteAt(0), FaxRows.NONE);
        due("1: NONE", FaxRows.NONE, -1);
    }

    private static void promise2() {
        FaxRows x = new FaxRows(0, 40);
        for (int odd : ODD) {
            due("2: put " + odd, x.put(odd, true), false);
        }
        due("2: put 40", x.put(40, true), false);
        due("2: put 0", x.put(0, true), true);
        due("2: put 31", x.put(31, true), true);
        due("2: put 32", x.put(32, true), true);
        due("2: put 39", x.put(39, true), true);
        due("2: put 5", x.put(5, true), true);
        due("2: white again", x.put(5, false), true);
        due("2: twice", x.put(39, true), true);
        x.endRow();
        x.encode();
        x.decode();
        due("2: row", changes(x, 0), "0 1 31 33 39");
    }

    private static void promise3() {
        FaxRows x = new FaxRows(0, 3);
        row(x, "X.X");
        for (int i = 1; i < 24; i++) {
            due("3: endRow " + i, x.endRow(), true);
        }
        x.put(1, true);
        due("3: endRow of 25", x.endRow(), false);
        due("3: endRow of 25 again", x.endRow(), false);
        x.encode();
        due("3: 24 rows", x.decode(), 24);
        due("3: row 0", readRow(x, 0, 3), "X.X");
        for (int i = 1; i < 24; i++) {
            due("3: a new row is white", readRow(x, i, 3), "...");
        }
        x.clear();
        due("3: endRow behind clear", x.endRow(), true);
    }

    private static void promise4InOneDimension() {
        FaxRows x = new FaxRows(0, 20);
        due("4: no rows", writtenBits(x), SIX_MARKS);
        row(x, "");
        row(x, "XXX");
        row(x, ".....XXX.........X.X");
        String due = padded("M 0001000  M 00110101 10 101011  M 1100 10 10100 010 000111 010"
                + SIX_MARKS);
        due("4: runs", writtenBits(x), due);
        due("4: the rows stay", writtenBits(x), due);
        row(x, "XXXXXXXXXXXXXXXXXXXX");
        due("4: a row more", writtenBits(x), padded("M 0001000  M 00110101 10 101011"
                + " M 1100 10 10100 010 000111 010  M 00110101 00001101000" + SIX_MARKS));
        longRun(63, "00110100");
        longRun(64, "11011 00110101");
        longRun(1728, "010011011 00110101");
        longRun(1791, "010011011 00110100");
        longRun(1792, "00000001000 00110101");
        longRun(2559, "000000011110 00110100");
        longRun(2560, "000000011111 00110101");
        longRun(2624, "000000011111 11011 00110101");
        longRun(3000, "000000011111 00110111 01011001");
    }

    private static void longRun(int width, String code) {
        FaxRows x = new FaxRows(0, width);
        x.endRow();
        due("4: run of " + width, writtenBits(x), padded("M" + code + SIX_MARKS));
    }

    private static void promise4InTwo() {
        against(".....XXXXX", ".....XXXXX", "1 1 1");
        against(".....XXXXX", "......XXXXX", "011 011 1");
        against(".....XXXXX", ".......XXXXX", "000011 000011 1");
        against(".....XXXXX", "........XXXXX", "0000011 0000011 1");
        against(".....XXXXX", ".........XXXXX", "001 10100 0011 1");
        against(".....XXXXX", "....XXXXX", "010 010 1");
        against(".....XXXXX", "...XXXXX", "000010 000010 1");
        against(".....XXXXX", "..XXXXX", "0000010 0000010 1");
        against(".....XXXXX", ".XXXXX", "001 000111 0011 1");
        against(".....XXXXX", "", "0001 1");
        against(".....XXXXX", "..........XX", "001 00111 11 1");
        against(".....XXXXX", "...........X", "0001 001 000111 010 1");
        against("XX", "XX", "1 1 1");
        against("XX", ".X", "011 1 1");
        against(".XX", "XXX", "010 1 1");
        against("....XX", "XX", "001 00110101 11 0001 1");
        against("...............XXXXX", "", "001 0001000 0000110111");
        against("..................XX", "", "000011");
        against("..................XX", "XXXXXXXXXXXXXXXXXXXX", "001 00110101 00001101000");
    }

    private static void against(String above, String row, String modes) {
        FaxRows alone = new FaxRows(2, 20);
        row(alone, above);
        String first = writtenBits(alone).replaceFirst(MARK + MARK + "0*$", "");
        FaxRows x = new FaxRows(2, 20);
        row(x, above);
        row(x, row);
        due("4: " + row + " against " + above, writtenBits(x), padded(first + modes + "MM"));
        due("4: both are read", x.decode(), 2);
        due("4: as made", readRow(x, 1, 20), (row + "....................").substring(0, 20));
    }

    private static void promise4WithMarksInTwo() {
        FaxRows x = new FaxRows(1, 20);
        String end = "M1 M1 M1 M1 M1 M1";
        due("4: no rows of kind 1", writtenBits(x), padded(end));
        for (int i = 0; i < 6; i++) {
            row(x, ".....XXX");
        }
        String one = "M1 1100 10 001000";
        String two = "M0 111";
        due("4: each fourth in one", writtenBits(x),
                padded(one + two + two + two + one + two + end));
    }

    private static void promise5() {
        FaxRows x = new FaxRows(2, 3);
        due("5: nothing written", x.byteAt(0), FaxRows.NONE);
        x.encode();
        due("5: byte 0", x.byteAt(0), 0);
        due("5: byte 1", x.byteAt(1), 16);
        due("5: byte 2", x.byteAt(2), 1);
        due("5: byte 3", x.byteAt(3), FaxRows.NONE);
        for (int odd : ODD) {
            due("5: byte " + odd, x.byteAt(odd), FaxRows.NONE);
        }
        x.endRow();
        x.feed(77);
        due("5: as it was written", x.byteAt(0), 0);
        x.encode();
        due("5: written anew", x.byteAt(0), 128);
        due("5: written anew, the end", x.byteAt(3), 128);
    }

    private static void promise6() {
        FaxRows x = new FaxRows(2, 1);
        due("6: feed 512 + 160", x.feed(512 + 160), true);
        due("6: the lowest bits count", x.decode(), 1);
        x.clear();
        due("6: feed -1", x.feed(-1), true);
        due("6: eight rows", x.decode(), 8);
        due("6: feed of the least", x.feed(Integer.MIN_VALUE), true);
        due("6: still eight", x.decode(), 8);
        x.clear();
        // Past an object's 512th call nothing is promised: this is the class's own limit.
        for (int i = 0; i < 2000; i++) {
            due("6: feed " + i, x.feed(0), true);
        }
        due("6: feed of 2001", x.feed(0), false);
    }

    private static void promise7() {
        FaxRows x = new FaxRows(2, 5);
        due("7: nothing", x.decode(), -1);
        row(x, "XX");
        due("7: nothing written", x.decode(), -1);
        x.encode();
        due("7: what was written", x.decode(), 1);
        due("7: its row", readRow(x, 0, 5), "XX...");
        row(x, "..X");
        due("7: what was written last", x.decode(), 1);
        feedBits(x, "1 010 1 0001 M M");
        due("7: what was fed", x.decode(), 3);
        due("7: its row 0", readRow(x, 0, 5), ".....");
        due("7: its row 1", readRow(x, 1, 5), "....X");
        due("7: it stays", x.decode(), 3);
        x.encode();
        due("7: it stays before what is written", x.decode(), 3);
        x.clear();
        due("7: nothing behind clear", x.decode(), -1);
    }

    private static void promise7Refusals() {
        FaxRows x = fed(2, 5, "1 1 0000001");
        due("7: extension", x.decode(), -2);
        nothingRead("7: extension", x);
        x = fed(1, 5, "M1 1100  M0 0000001 1111  MM");
        due("7: extension with marks", x.decode(), -2);
        nothingRead("7: extension with marks", x);
        due("7: no extension in one dimension", fed(0, 5, "M 0000001 1 M 1100 MM").decode(), 2);
        due("7: no extension in runs", fed(2, 5, "001 0000001 1").decode(), 0);
        String rows = "1".repeat(24);
        due("7: 24 rows", fed(2, 5, rows + "MM").decode(), 24);
        due("7: 24 rows and damage", fed(2, 5, rows + "00000000").decode(), 24);
        due("7: 24 rows and a part", fed(2, 5, rows + "01").decode(), 24);
        x = fed(2, 5, rows + "1 MM");
        due("7: 25 rows", x.decode(), -3);
        nothingRead("7: 25 rows", x);
        due("7: an extension behind 24", fed(2, 5, rows + "0000001").decode(), -2);
        String marked = "M1100".repeat(24);
        due("7: 24 marked rows", fed(0, 5, marked + "MM").decode(), 24);
        due("7: 24 marked rows, the data's end", fed(0, 5, marked + "0000").decode(), 24);
        due("7: 25 marked rows", fed(0, 5, marked + "M1100 MM").decode(), -3);
        due("7: the 25th is damaged", fed(0, 5, marked + "M00000000001").decode(), -3);
        due("7: 25 rows of kind 1", fed(1, 5, "M01".repeat(25) + "M1M1").decode(), -3);
        x = fed(2, 5, "1 1 MM");
        x.decode();
        x.order(true);
        due("7: read by another order", x.decode(), -2);
        nothingRead("7: read by another order", x);
    }

    private static void promise7Marks() {
        due("7: no mark", fed(0, 5, "1100 1100").decode(), 0);
        due("7: one mark at the end", fed(0, 5, "1 0000 0000 0000 0000 0000 001").decode(), 1);
        due("7: ten zeros are none", fed(0, 5, "0000000000 1 1100").decode(), 0);
        due("7: more zeros before a mark", fed(0, 5, "1010 000000 M 1100 0000 MM").decode(), 1);
        due("7: two marks end", fed(0, 5, "M 1100 MM 1100 M 1100").decode(), 1);
        due("7: and with zeros between", fed(0, 5, "M 1100 M 0000000 M 1100").decode(), 1);
        due("7: two at once", fed(0, 5, "MM 1100 M 1100").decode(), 0);
        due("7: behind the bit", fed(1, 5, "M1 1100 M1 M 1100").decode(), 1);
        due("7: behind the bit 0", fed(1, 5, "M1 1100 M0 000 M 1100").decode(), 1);
        due("7: the bit is no zero of a mark", fed(1, 5, "M1 1100 M0 0000000000 1").decode(), 2);
        due("7: no bit behind it", fed(1, 5, "1100 M").decode(), 0);
        due("7: a bit alone behind it", fed(1, 5, "110 M 1").decode(), 1);
        due("7: what is behind a row", fed(0, 5, "M 1100 10101 M 1100 M M").decode(), 2);
        due("7: one mark ends kind 2 too", fed(2, 5, "1 1 M 1 1").decode(), 2);
        due("7: zeros end kind 2", fed(2, 5, "1 1 00000000 1").decode(), 2);
    }

    private static void promise8() {
        FaxRows x = fed(0, 4, "M 0111 11  M 00110101 010 1000  MM");
        due("8: two rows", x.decode(), 2);
        due("8: row 0", readRow(x, 0, 4), "..XX");
        due("8: row 1", readRow(x, 1, 4), "X...");
        for (int odd : ODD) {
            due("8: sample " + odd, throwsAt(x, odd, 1), 1);
            due("8: row " + odd, x.at(0, odd), false);
            due("8: both " + odd, throwsAt(x, odd, odd), 0);
        }
        due("8: sample 4", throwsAt(x, 4, 0), 1);
        due("8: sample 3", throwsAt(x, 3, 0), 0);
        due("8: sample 4 of no row", throwsAt(x, 4, 2), 0);
        due("8: row 2", x.at(0, 2), false);
        due("8: nothing has changed", readRow(x, 0, 4) + readRow(x, 1, 4), "..XXX...");
    }

    private static void promise9() {
        hurt("no code fits", "M1 00000000 1");
        hurt("runs go beyond", "M1 1011 0011");
        hurt("a great run goes beyond", "M1 11011 00110101");
        hurt("a bit is missing", "M1 10110");
        hurt("no mode fits", "M0 00000000 1");
        hurt("vertical is beyond", "M0 011 1");
        hurt("horizontal goes beyond", "M0 001 1011 11");
        hurt("the first run of horizontal goes beyond", "M0 001 1110 0000110111");
        hurt("no run fits in horizontal", "M0 001 1011 00000000 1");
        hurt("vertical is at a0", "M0 001 1011 0000110111 010 1");
        hurt("vertical is before a0", "M0 001 1011 0000110111 000010 1");
        hurt("vertical is before the row", "M1 00110101 0011 M0 010 1", 1);
        hurt("vertical is two before the row", "M1 00110101 0011 M0 000010 1", 1);
        whole("vertical at the first sample", "M1 000111 011 M0 010 1", 1);
        whole("horizontal up to the end", "M0 001 1011 010", 0);
        whole("horizontal with none behind", "M0 001 1100 0000110111", 0);
        whole("pass to the end", "M0 0001", 0);
        FaxRows x = fed(0, 5, "M 1100 MM");
        x.decode();
        for (int odd : ODD) {
            due("9: row " + odd, x.damaged(odd), false);
        }
    }

    private static void hurt(String what, String bits) {
        hurt(what, bits, 0);
    }

    /** With a good row behind it, in which two marks do not stand at once. */
    private static void hurt(String what, String bits, int row) {
        FaxRows x = fed(1, 5, bits + "M1 1011 010 M1 M1");
        due("9: rows: " + what, x.decode(), row + 2);
        due("9: " + what, x.damaged(row), true);
        due("9: no modes: " + what, x.mode(row, 0), FaxRows.NONE);
        due("9: white: " + what, readRow(x, row, 5), ".....");
        due("9: next: " + what, x.damaged(row + 1), false);
        due("9: row behind: " + what, readRow(x, row + 1, 5), "....X");
    }

    private static void whole(String what, String bits, int row) {
        FaxRows x = fed(1, 5, bits + "M1 M1");
        due("9: rows: " + what, x.decode(), row + 1);
        due("9: " + what, x.damaged(row), false);
    }

    private static void promise9WithoutMarks() {
        due("9: kind 2, before a damaged row", fed(2, 5, "1 1 011 1 1 1").decode(), 2);
        due("9: kind 2, a row lacks bits", fed(2, 5, "1 1 001 1011 00").decode(), 2);
        FaxRows x = fed(2, 5, "1 001 1011 11 1 1");
        due("9: kind 2, runs beyond", x.decode(), 1);
        due("9: kind 2, no row", x.damaged(1), false);
        due("9: kind 2, no modes of it", x.mode(1, 0), FaxRows.NONE);
        due("9: kind 2, no changes of it", x.changes(1, 0), FaxRows.NONE);
    }

    private static void promise10() {
        FaxRows x = fed(0, 20, "M 1100 10 001000  M 00110101 00001101000"
                + "M 1100 0000110111 1000 11 00111  MM");
        due("10: rows", x.decode(), 3);
        due("10: row 0", changes(x, 0), "5 8");
        due("10: row 1", changes(x, 1), "0");
        due("10: a run of none is no change", changes(x, 2), "8 10");
        due("10: row 3", changes(x, 3), "");
        for (int odd : ODD) {
            due("10: change " + odd, x.changes(0, odd), FaxRows.NONE);
            due("10: of row " + odd, x.changes(odd, 0), FaxRows.NONE);
        }
        x = fed(0, 70, "M 11011 11011 00110101 MM");
        due("10: great codes add up", x.decode(), 1);
        due("10: and go beyond", x.damaged(0), true);
        due("10: a damaged row as it stands", changes(x, 0), "");
        x = fed(0, 200, "M 11011 11011 000111 0000001111 11 1100 MM");
        x.decode();
        due("10: great codes of two sorts", changes(x, 0), "129 195");
    }

    private static void promise11() {
        FaxRows x = fed(2, 40, "001 00111 0000100 1 " + "011 010 1 " + "000011 000010 1 "
                + "0000010 0000011 1 " + "0001 1 " + "0000010 1" + "MM");
        due("11: rows", x.decode(), 6);
        due("11: row 0", modes(x, 0), "1 5");
        due("11: row 1", modes(x, 1), "6 4 5");
        due("11: row 2", modes(x, 2), "7 3 5");
        due("11: row 3", modes(x, 3), "2 8 5");
        due("11: row 4", modes(x, 4), "0 5");
        due("11: row 5", modes(x, 5), "2 5");
        due("11: row 6", modes(x, 6), "");
        due("11: changes of row 0", changes(x, 0), "10 20");
        due("11: changes of row 1", changes(x, 1), "11 19");
        due("11: changes of row 2", changes(x, 2), "13 17");
        due("11: changes of row 3", changes(x, 3), "10 20");
        due("11: changes of row 4", changes(x, 4), "");
        due("11: changes of row 5", changes(x, 5), "37");
        for (int odd : ODD) {
            due("11: mode " + odd, x.mode(0, odd), FaxRows.NONE);
            due("11: of row " + odd, x.mode(odd, 0), FaxRows.NONE);
        }
        x = fed(1, 5, "M1 1100  M0 1  M1 1100  M0 011  M1 M1");
        due("11: rows of kind 1", x.decode(), 4);
        due("11: none in one dimension", modes(x, 0) + modes(x, 2), "");
        due("11: in two", modes(x, 1), "5");
        due("11: none of damaged ones", modes(x, 3), "");
        x = fed(2, 5, "001 00110101 0000110111  001 00110101 0000110111  001 0111 10  MM");
        due("11: runs of none", x.decode(), 1);
        due("11: are modes too", modes(x, 0), "1 1 1");
        due("11: but no changes", changes(x, 0), "2");
        alternating();
    }

    /** The row with the most modes: each sample is other than the one before, in both rows. */
    private static void alternating() {
        FaxRows x = new FaxRows(2, 3000);
        for (int y = 0; y < 2; y++) {
            for (int i = 0; i < 3000; i += 2) {
                x.put(i, true);
            }
            x.endRow();
        }
        x.encode();
        due("11: rows that alternate", x.decode(), 2);
        due("11: mode 0", x.mode(1, 0), 5);
        due("11: mode 3000", x.mode(1, 3000), 5);
        due("11: mode 3001", x.mode(1, 3001), FaxRows.NONE);
        due("11: mode 3003", x.mode(1, 3003), FaxRows.NONE);
        due("11: mode 3004", x.mode(1, 3004), FaxRows.NONE);
        due("11: change 2999", x.changes(1, 2999), 2999);
        due("11: change 3000", x.changes(1, 3000), FaxRows.NONE);
    }

    private static void promise12() {
        FaxRows x = new FaxRows(0, 5);
        for (int odd : ODD) {
            due("12: fill " + odd, x.fill(odd), false);
        }
        due("12: fill 4001", x.fill(4001), false);
        row(x, "");
        due("12: none at first", writtenBits(x), padded("M 1100" + SIX_MARKS));
        due("12: fill 5", x.fill(5), true);
        due("12: one bit more", writtenBits(x), padded("M 1100 0" + SIX_MARKS));
        due("12: fill 4", x.fill(4), true);
        due("12: as many as there are", writtenBits(x), padded("M 1100" + SIX_MARKS));
        due("12: fill 4000", x.fill(4000), true);
        due("12: bytes", x.encode(), (12 + 4000 + 72 + 7) / 8);
        due("12: the row is read", x.decode(), 1);
        due("12: wrong ones change nothing", x.fill(-1), false);
        due("12: bytes as before", x.encode(), (12 + 4000 + 72 + 7) / 8);
        due("12: fill 0", x.fill(0), true);
        due("12: none again", writtenBits(x), padded("M 1100" + SIX_MARKS));
        FaxRows two = new FaxRows(1, 5);
        two.fill(6);
        row(two, "");
        row(two, "");
        due("12: kind 1", writtenBits(two),
                padded("M1 110000  M0 100000  M1 M1 M1 M1 M1 M1"));
        FaxRows unmarked = new FaxRows(2, 5);
        unmarked.fill(40);
        row(unmarked, "");
        due("12: none of kind 2", writtenBits(unmarked), padded("1 M M"));
    }

    private static void promise13() {
        FaxRows x = fed(1, 5, "M1 00000000 1  M1 1011 010  M1 00000000 1  M0 1 1  M1 M1");
        due("13: rows", x.decode(), 4);
        due("13: white at first", readRow(x, 2, 5), ".....");
        due("13: so the next has nothing to turn at", x.damaged(3), false);
        due("13: and is white", readRow(x, 3, 5), ".....");
        for (int odd : ODD) {
            due("13: rule " + odd, x.repair(odd), false);
        }
        due("13: rule 2", x.repair(2), false);
        due("13: rule 1", x.repair(1), true);
        due("13: what was read stays", readRow(x, 2, 5), ".....");
        due("13: rows by rule 1", x.decode(), 4);
        due("13: white above the first", readRow(x, 0, 5), ".....");
        due("13: that above", readRow(x, 2, 5), "....X");
        due("13: it is damaged all the same", x.damaged(2), true);
        due("13: and has no modes", x.mode(2, 0), FaxRows.NONE);
        due("13: the next is told against it", readRow(x, 3, 5), "....X");
        due("13: rule 0", x.repair(0), true);
        x.decode();
        due("13: white again", readRow(x, 2, 5), ".....");
    }

    private static void promise14() {
        FaxRows x = new FaxRows(2, 5);
        due("14: highest first at first", x.order(false), 0);
        due("14: otherwise", x.order(true), 1);
        due("14: the same", x.order(true), 0);
        row(x, "");
        due("14: bytes", x.encode(), 4);
        due("14: byte 0", x.byteAt(0), 1);
        due("14: byte 1", x.byteAt(1), 16);
        due("14: byte 2", x.byteAt(2), 0);
        due("14: byte 3", x.byteAt(3), 1);
        due("14: read", x.decode(), 1);
        due("14: back", x.order(false), 1);
        due("14: what was written stays", x.byteAt(0), 1);
        due("14: and is read otherwise", x.decode(), 0);
        x.feed(192);
        due("14: fed, from the highest on", x.decode(), 2);
        x.order(true);
        due("14: fed, from the lowest on", x.decode(), -2);
    }

    private static void promise15() {
        FaxRows x = new FaxRows(0, 5);
        x.order(true);
        x.fill(9);
        x.repair(1);
        row(x, "XX");
        x.put(2, true);
        x.encode();
        x.feed(0);
        x.feed(8);
        x.decode();
        due("15: before", x.damaged(0), true);
        x.clear();
        nothingRead("15: clear", x);
        due("15: nothing written", x.byteAt(0), FaxRows.NONE);
        due("15: nothing fed or written", x.decode(), -1);
        due("15: no rows", x.encode(), 9);
        x.endRow();
        due("15: the settings stay", x.encode(), (12 + 9 + 72 + 7) / 8);
        due("15: the order stays", x.byteAt(1), 8 + 16 + 32);
        due("15: one row", x.decode(), 1);
        due("15: which is white", readRow(x, 0, 5), ".....");
        x.clear();
        x.clear();
        due("15: twice", x.decode(), -1);
    }

    public static void main(String[] args) {
        promise1();
        promise2();
        promise3();
        promise4InOneDimension();
        promise4InTwo();
        promise4WithMarksInTwo();
        promise5();
        promise6();
        promise7();
        promise7Refusals();
        promise7Marks();
        promise8();
        promise9();
        promise9WithoutMarks();
        promise10();
        promise11();
        promise12();
        promise13();
        promise14();
        promise15();
        System.out.println(wrong == 0 ? "all promises are kept" : wrong + " answers are wrong");
        if (wrong != 0) {
            System.exit(1);
        }
    }
}
