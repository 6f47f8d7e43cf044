import java.util.ArrayList;
import java.util.List;

/**
 * Each sentence of the document that names a boundary case, with a test of its own: what is just
 * inside the boundary, what is at it, and what is just outside.
 */
public final class FaxRowsBoundaries {
    private static final String MARK = "000000000001";
    private static final String SIX = "MMMMMM";
    private static final String SIX_OF_KIND_1 = "M1 M1 M1 M1 M1 M1";
    private static final int LEAST = Integer.MIN_VALUE;
    private static final int GREATEST = Integer.MAX_VALUE;

    private static String sentence = "";
    private static int asked = 0;
    private static int wrong = 0;

    // How a test is told, and what is due in it.

    private static void test(String itsSentence, Runnable test) {
        sentence = itsSentence;
        int before = asked;
        try {
            test.run();
        } catch (RuntimeException e) {
            tell("a call throws " + e);
        }
        if (asked == before) {
            tell("nothing is asked");
        }
    }

    private static void tell(String what) {
        wrong++;
        System.out.println(sentence + "\n    " + what);
    }

    private static void due(String what, Object got, Object want) {
        asked++;
        if (!got.equals(want)) {
            tell(what + " answered " + got + ", due is " + want);
        }
    }

    // Bits as text, in which M stands for a mark.

    private static String bare(String bits) {
        return bits.replace("M", MARK).replace(" ", "");
    }

    private static String padded(String bits) {
        StringBuilder text = new StringBuilder(bare(bits));
        while (text.length() % 8 != 0) {
            text.append('0');
        }
        return text.toString();
    }

    /** The data ends with the last of these bits: what is not looked at stands before them. */
    private static String endingSo(String bits) {
        StringBuilder text = new StringBuilder(bare(bits));
        while (text.length() % 8 != 0) {
            text.insert(0, '1');
        }
        return text.toString();
    }

    private static FaxRows fed(int kind, int width, String bits) {
        FaxRows x = new FaxRows(kind, width);
        feed(x, bits);
        return x;
    }

    private static void feed(FaxRows x, String bits) {
        String text = padded(bits);
        for (int i = 0; i < text.length(); i += 8) {
            due("feed", x.feed(Integer.parseInt(text.substring(i, i + 8), 2)), true);
        }
    }

    // Rows as text, X for black; one that was damaged has ! before it.

    private static String picture(FaxRows x, int width) {
        int rows = x.decode();
        return rows < 0 ? String.valueOf(rows) : pictureOf(x, rows, width);
    }

    private static String pictureOf(FaxRows x, int rows, int width) {
        List<String> texts = new ArrayList<>();
        for (int y = 0; y < rows; y++) {
            StringBuilder text = new StringBuilder(x.damaged(y) ? "!" : "");
            for (int i = 0; i < width; i++) {
                text.append(x.at(i, y) ? 'X' : '.');
            }
            texts.add(text.toString());
        }
        return String.join(" ", texts);
    }

    private static void reads(int kind, int width, String bits, String rows) {
        due("kind " + kind + ", reading " + bits, picture(fed(kind, width, bits), width), rows);
    }

    private static void make(FaxRows x, String... rows) {
        for (String row : rows) {
            for (int i = 0; i < row.length(); i++) {
                if (row.charAt(i) == 'X') {
                    x.put(i, true);
                }
            }
            due("endRow", x.endRow(), true);
        }
    }

    private static FaxRows made(int kind, int width, String... rows) {
        FaxRows x = new FaxRows(kind, width);
        make(x, rows);
        return x;
    }

    private static String written(FaxRows x) {
        int count = x.encode();
        StringBuilder text = new StringBuilder();
        for (int i = 0; i < count; i++) {
            text.append(Integer.toBinaryString(256 + x.byteAt(i)).substring(1));
        }
        return text.toString();
    }

    private static void writes(FaxRows x, String bits) {
        due("what is written", written(x), padded(bits));
    }

    /** The first row is written in one dimension, the second in two, by these bits. */
    private static void against(String above, String row, String bits) {
        FaxRows x = made(1, above.length(), above, row);
        String text = written(x);
        int start = text.lastIndexOf(MARK + "0") + MARK.length() + 1;
        int end = text.lastIndexOf(bare(SIX_OF_KIND_1));
        due(row + " against " + above, text.substring(start, end), bare(bits));
        due("it is read as it was made", picture(x, above.length()), above + " " + row);
    }

    private static String all(char sample, int width) {
        return String.valueOf(sample).repeat(width);
    }

    private static String changes(FaxRows x, int row) {
        StringBuilder text = new StringBuilder();
        for (int k = 0; x.changes(row, k) != FaxRows.NONE; k++) {
            text.append(' ').append(x.changes(row, k));
        }
        return text.toString().trim();
    }

    private static String modes(FaxRows x, int row) {
        StringBuilder text = new StringBuilder();
        for (int k = 0; x.mode(row, k) != FaxRows.NONE; k++) {
            text.append(' ').append(x.mode(row, k));
        }
        return text.toString().trim();
    }

    private static boolean throwsAt(FaxRows x, int column, int row) {
        try {
            x.at(column, row);
            return false;
        } catch (ArrayIndexOutOfBoundsException e) {
            return true;
        }
    }

    private static void nothingIsRead(FaxRows x) {
        for (int y = -1; y <= 25; y++) {
            due("at(0, " + y + ")", x.at(0, y), false);
            due("at(-1, " + y + ") throws", throwsAt(x, -1, y), false);
            due("damaged(" + y + ")", x.damaged(y), false);
            due("changes(" + y + ", 0)", x.changes(y, 0), FaxRows.NONE);
            due("mode(" + y + ", 0)", x.mode(y, 0), FaxRows.NONE);
        }
    }

    // Terms: how rows are written.

    private static void samplesAsTold() {
        for (int width : new int[] {1, 2, 31, 32, 33, 63, 64, 65, 2999, 3000}) {
            FaxRows x = new FaxRows(0, width);
            due("the last sample", x.put(width - 1, true), true);
            x.endRow();
            x.encode();
            due("rows", x.decode(), 1);
            due("the last sample is black", x.at(width - 1, 0), true);
            due("the one change", changes(x, 0), String.valueOf(width - 1));
            due("a sample more throws", throwsAt(x, width, 0), true);
        }
    }

    private static void eachFourthInOne() {
        FaxRows x = new FaxRows(1, 5);
        StringBuilder due = new StringBuilder();
        for (int y = 0; y < 24; y++) {
            x.endRow();
            due.append(y % 4 == 0 ? "M1 1100" : "M0 1");
        }
        writes(x, due + SIX_OF_KIND_1);
        due("rows", x.decode(), 24);
        for (int y = 0; y < 24; y++) {
            due("a mode of row " + y, x.mode(y, 0), y % 4 == 0 ? FaxRows.NONE : 5);
        }
    }

    private static void bitOrder() {
        FaxRows x = made(2, 5, ".....", "XXXXX");
        writes(x, "1  001 00110101 0011  MM");
        int[] highest = new int[x.encode()];
        for (int i = 0; i < highest.length; i++) {
            highest[i] = x.byteAt(i);
        }
        x.order(true);
        due("as many bytes", x.encode(), highest.length);
        for (int i = 0; i < highest.length; i++) {
            due("byte " + i + " turned", x.byteAt(i), Integer.reverse(highest[i]) >>> 24);
        }
        due("read so too", picture(x, 5), "..... XXXXX");
    }

    private static void wholeBytesAtTheEnd() {
        for (int rows = 0; rows <= 16; rows++) {
            FaxRows x = new FaxRows(2, 5);
            for (int y = 0; y < rows; y++) {
                x.endRow();
            }
            writes(x, "1".repeat(rows) + "MM");
            due("bytes of " + rows + " rows", x.encode(), 3 + (rows + 7) / 8);
            x.order(true);
            int turned = Integer.reverse(Integer.parseInt(written(x).substring(16, 24), 2)) >>> 24;
            String third = padded("1".repeat(rows) + "MM").substring(16, 24);
            due("the third byte from the lowest on", turned, Integer.parseInt(third, 2));
            due("no byte more", x.byteAt(3 + (rows + 7) / 8), FaxRows.NONE);
        }
        // The last byte is 01 and six 0: read from the lowest on, the six come before the 1.
        FaxRows x = made(0, 1, ".");
        writes(x, "M 000111" + SIX);
        due("bits of the last byte", x.byteAt(11), 64);
        x.order(true);
        due("they are read too", picture(x, 1), "!. !. !.");
    }

    private static void marksAtTheEnd() {
        writes(new FaxRows(0, 5), SIX);
        writes(new FaxRows(1, 5), SIX_OF_KIND_1);
        writes(new FaxRows(2, 5), "MM");
        writes(made(0, 5, "....."), "M 1100" + SIX);
        writes(made(1, 5, "....."), "M1 1100" + SIX_OF_KIND_1);
        writes(made(2, 5, "....."), "1 MM");
    }

    private static void bitBehindTheMark() {
        writes(made(1, 5, ".....", "....X", "....X"),
                "M1 1100  M0 010 1  M0 1 1" + SIX_OF_KIND_1);
    }

    private static void fillBringsItThere() {
        String[] runs = {"1100", "1100", "1100", "1100 0", "1100 00"};
        String[] modes = {"010 1", "010 1", "010 1", "010 1 0", "010 1 00"};
        for (int i = 0; i < runs.length; i++) {
            FaxRows x = made(0, 5, ".....");
            due("fill", x.fill(i + 2), true);
            writes(x, "M" + runs[i] + SIX);
            FaxRows two = made(1, 5, ".....", "....X");
            due("fill", two.fill(i + 2), true);
            writes(two, "M1" + runs[i] + "M0" + modes[i] + SIX_OF_KIND_1);
        }
        FaxRows long4000 = made(0, 5, ".....", "XXXXX");
        long4000.fill(4000);
        writes(long4000, "M 1100" + all('0', 3996) + "M 00110101 0011" + all('0', 3988) + SIX);
        due("and is read", picture(long4000, 5), "..... XXXXX");
    }

    private static void fillOfEachRowByItself() {
        FaxRows x = made(0, 5, ".....", "X....", ".....");
        x.fill(6);
        writes(x, "M 1100 00  M 00110101 010 1011  M 1100 00" + SIX);
    }

    private static void noFillOfKind2() {
        FaxRows x = made(2, 5, ".....", ".....");
        due("fill", x.fill(4000), true);
        writes(x, "1 1 MM");
    }

    private static void whiteFirst() {
        writes(made(0, 5, "XXXXX"), "M 00110101 0011" + SIX);
        writes(made(0, 5, "X...."), "M 00110101 010 1011" + SIX);
        writes(made(0, 5, ".XXXX"), "M 000111 011" + SIX);
        writes(made(0, 1, "X"), "M 00110101 010" + SIX);
        writes(made(0, 1, "."), "M 000111" + SIX);
    }

    private static void upToTheEnd() {
        writes(made(0, 5, "....X"), "M 1011 010" + SIX);
        writes(made(0, 5, "...X."), "M 1000 010 000111" + SIX);
        writes(made(0, 5, "....."), "M 1100" + SIX);
    }

    private static void whiteRun(int width, String codes) {
        FaxRows x = new FaxRows(0, width);
        x.endRow();
        writes(x, "M" + codes + SIX);
        due("rows", x.decode(), 1);
        due("damaged", x.damaged(0), false);
        due("changes", changes(x, 0), "");
    }

    private static void blackRun(int width, String codes) {
        FaxRows x = made(0, width, all('X', width));
        writes(x, "M 00110101" + codes + SIX);
        due("rows", x.decode(), 1);
        due("damaged", x.damaged(0), false);
        due("changes", changes(x, 0), "0");
    }

    private static void from2560On() {
        whiteRun(2495, "000000011101 00110100");
        whiteRun(2496, "000000011110 00110101");
        whiteRun(2559, "000000011110 00110100");
        whiteRun(2560, "000000011111 00110101");
        whiteRun(2561, "000000011111 000111");
        whiteRun(2623, "000000011111 00110100");
        whiteRun(2624, "000000011111 11011 00110101");
        whiteRun(3000, "000000011111 00110111 01011001");
        blackRun(2559, "000000011110 000001100111");
        blackRun(2560, "000000011111 0000110111");
        blackRun(2624, "000000011111 0000001111 0000110111");
        blackRun(3000, "000000011111 000000110100 000000101000");
    }

    private static void from64On() {
        whiteRun(63, "00110100");
        whiteRun(64, "11011 00110101");
        whiteRun(65, "11011 000111");
        whiteRun(127, "11011 00110100");
        whiteRun(128, "10010 00110101");
        whiteRun(1727, "011000 00110100");
        whiteRun(1728, "010011011 00110101");
        whiteRun(1791, "010011011 00110100");
        whiteRun(1792, "00000001000 00110101");
        blackRun(63, "000001100111");
        blackRun(64, "0000001111 0000110111");
        blackRun(65, "0000001111 010");
        blackRun(127, "0000001111 000001100111");
        blackRun(128, "000011001000 0000110111");
        blackRun(1728, "0000001100101 0000110111");
        blackRun(1791, "0000001100101 000001100111");
        blackRun(1792, "00000001000 0000110111");
    }

    private static void whiteBeforeTheFirstSample() {
        FaxRows x = made(0, 5, "X....", ".X...", "XXXXX", ".....");
        x.encode();
        x.decode();
        due("black at once", changes(x, 0), "0 1");
        due("white at first", changes(x, 1), "1 2");
        due("all black", changes(x, 2), "0");
        due("all white", changes(x, 3), "");
    }

    private static void whiteBeforeTheFirstRow() {
        writes(made(2, 5, "....."), "1 MM");
        writes(made(2, 5, "....X"), "010 1 MM");
        writes(made(2, 5, "XXXXX"), "001 00110101 0011 MM");
        reads(2, 5, "010 1 MM", "....X");
        reads(1, 5, "M0 010 1 M1 M1", "....X");
    }

    private static void a0JustBeforeTheRow() {
        against("X....", "X....", "1 1 1");
        against("X....", ".X...", "011 0000010 1");
        against(".X...", "X....", "010 010 1");
        against("XXXXX", "XXXXX", "1 1");
    }

    private static void a1AtTheEnd() {
        against("...X.", ".....", "0001 1");
        against("..X..", "..XXX", "1 000011");
        against("....X", ".....", "011");
        against("X....", "XXXXX", "1 001 0011 00110101");
    }

    private static void a1WhenNothingIsTold() {
        against("X.........", "X.........", "1 1 1");
        against(".....X....", "X.........", "001 00110101 010 0001 1");
        against("..X.......", "XX........", "000010 010 1");
    }

    private static void b1BehindA0() {
        // The change above to white, at 5, is where a0 is: it is not behind it.
        against("..XXX.....", ".....XX...", "0000011 0000010 1");
        // And one behind it counts.
        against("..XXXX....", ".....XX...", "0000011 011 1");
    }

    private static void b1ToTheOtherColour() {
        // At a0 of 2, white, the next change above is to white, at 4: b1 is the one at 7.
        against("..XX...X..", "XX.....X..", "000010 000010 1 1 1");
        against("XXXX...X..", ".......X..", "0001 1 1 1");
    }

    private static void b1AndB2AtTheEnd() {
        against(".......XXX", "..........", "0000011");
        against("......XXXX", "..........", "001 00111 0000110111");
        against("..........", ".......XXX", "0000010 1");
        against("..........", "......XXXX", "001 1110 011");
        against("XXXXXXXXXX", "..........", "001 00111 0000110111");
    }

    private static void b2BeforeA1() {
        against("..XXX.....", "....X.....", "000011 1 1");
        against("..XXX.....", ".....X....", "0000011 001 010 1011");
        against("..XXX.....", "......X...", "0001 001 000111 010 1");
        against("XX........", "..XX......", "000011 001 11 1110");
        against("XX........", "...XX.....", "0001 001 000111 11 1");
    }

    private static void withinThree() {
        against("....XXXXXXXX", "XXXXXXXXXXXX", "001 00110101 0000111");
        against("....XXXXXXXX", ".XXXXXXXXXXX", "0000010 1");
        against("....XXXXXXXX", "..XXXXXXXXXX", "000010 1");
        against("....XXXXXXXX", "...XXXXXXXXX", "010 1");
        against("....XXXXXXXX", "....XXXXXXXX", "1 1");
        against("....XXXXXXXX", ".....XXXXXXX", "011 1");
        against("....XXXXXXXX", "......XXXXXX", "000011 1");
        against("....XXXXXXXX", ".......XXXXX", "0000011 1");
        against("....XXXXXXXX", "........XXXX", "001 10011 011");
    }

    private static void horizontalFromTheFirstSample() {
        against("..........", "X.........", "001 00110101 010 1");
        against("..........", ".X........", "001 000111 010 1");
        against("..........", "XXXXXXXXXX", "001 00110101 0000100");
        // Behind something told it is from a0 on.
        against("X.........", "X....X....", "1 1 001 1011 010 1");
        against("..........", "X....X....", "001 00110101 010 001 1011 010 1");
        against("..........", "X....X...X", "001 00110101 010 001 1011 010 010 1");
    }

    private static void untilTheEnd() {
        against("..........", ".....XXXXX", "001 1100 0011");
        against("..........", ".....XXXX.", "001 1100 011 1");
        against("..........", "..........", "1");
        against("...XXXXXXX", "...XXXXXXX", "1 1");
    }

    // Terms: how rows are read.

    private static void elevenZerosOrMore() {
        reads(0, 5, "0000000000 1 1100 MM", "");
        reads(0, 5, "00000000000 1 1100 MM", ".....");
        reads(0, 5, "000000000000 1 1100 MM", ".....");
        reads(0, 5, all('0', 200) + "1 1100 MM", ".....");
        reads(0, 5, "1 0000000000 1 0000000000 1 1100 MM", "");
        reads(0, 5, "M 1100 0000000000 1 1011 010 MM", ".....");
        reads(0, 5, "M 1100 00000000000 1 1011 010 MM", "..... ....X");
        reads(0, 5, "M 1100" + all('0', 100) + "1 1011 010 MM", "..... ....X");
    }

    private static void fromTheBeginningOn() {
        reads(0, 5, "M 1100 MM", ".....");
        reads(0, 5, "1 M 1100 MM", ".....");
        reads(0, 5, "1100 1100 0011 0101 M 1100 MM", ".....");
        reads(1, 5, "1100 1100 0011 0101 M1 1100 M1 M1", ".....");
    }

    private static void behindTheLastCode() {
        // The zeros of a row's last code are none of the mark's.
        reads(0, 3, "M 1000 00000000 1 0111 010 M 1000 MM", "... ...");
        reads(0, 3, "M 1000 0000000000 1 0111 010 M 1000 MM", "... ...");
        reads(0, 3, "M 1000 00000000000 1 0111 010 M 1000 MM", "... ..X ...");
        reads(1, 3, "M0 001 00110101 10 0000000000 1 1 0111 010 M1 1000 M1 M1", "XXX ...");
        reads(1, 3, "M0 001 00110101 10 00000000000 1 1 0111 010 M1 1000 M1 M1", "XXX ..X ...");
    }

    private static void behindTheLastCodeOfADamagedRow() {
        // What fits none is looked through for a mark.
        reads(0, 5, "M M 1100 MM", "");
        reads(0, 5, "M 1011 M 1100 MM", "!..... .....");
        reads(0, 99, "M 11011 M 10010 00110101 MM", "!" + all('.', 99) + " !" + all('.', 99));
        reads(1, 5, "M0 001 M1 1100 M1 M1", "!..... .....");
        reads(1, 5, "M0 001 1011 M1 1100 M1 M1", "!..... .....");
        reads(0, 5, "M 00000000 M 1100 MM", "");
        reads(0, 5, "M 00000000 1 M 1100 MM", "!..... .....");
        // A code that fits, and goes beyond the row's end, is behind: its zero is none of a mark's.
        reads(0, 5, "M 1011 10 0000000000 1 1100 M 1011 010 MM", "!..... ....X");
        reads(0, 5, "M 1011 10 00000000000 1 1100 M 1011 010 MM", "!..... ..... ....X");
        reads(1, 5, "M1 00110101 0011 M0 010 0000000000 1 1 1100 M1 1100 M1 M1",
                "XXXXX !..... .....");
        reads(1, 5, "M1 00110101 0011 M0 010 00000000000 1 1 1100 M1 1100 M1 M1",
                "XXXXX !..... ..... .....");
    }

    private static void noMarkEndsIt() {
        reads(0, 5, "1100 1100", "");
        reads(0, 5, "00000000", "");
        reads(0, 5, "00000000 00000000 00000000", "");
        reads(1, 5, "00000000 00000000 00000000", "");
        reads(0, 5, "M 1100 1100 1100", ".....");
        reads(0, 5, "M 1100 00000000 00000000", ".....");
        for (int bytes = 1; bytes <= 130; bytes++) {
            reads(0, 5, all('0', 8 * bytes), "");
            reads(0, 5, all('1', 8 * bytes), "");
            reads(0, 5, endingSo("M 1100" + all('0', 8 * bytes)), ".....");
        }
        reads(1, 5, "M1 1100 M0 1 1 1 1 1", "..... .....");
    }

    private static void noBitBehindIt() {
        reads(1, 5, endingSo("M"), "");
        reads(1, 5, endingSo("M1 1100 M"), ".....");
        reads(1, 5, endingSo("M1 1100 M1"), "..... !.....");
        reads(1, 5, endingSo("M1 1100 M0"), "..... !.....");
        reads(0, 5, endingSo("M 1100 M"), "..... !.....");
    }

    private static void twoMarksEndIt() {
        reads(0, 5, "M 1100 MM 1100 M 1100 M 1100", ".....");
        reads(0, 5, "M 1100 M 0 M 1100 M 1100", ".....");
        reads(0, 5, "M 1100 M" + all('0', 90) + "M 1100 M 1100", ".....");
        reads(0, 5, "MM 1100 M 1100", "");
        reads(0, 5, "M 1100 M 1100 MM", "..... .....");
        reads(1, 5, "M1 1100 M1 M1 1100", ".....");
        reads(1, 5, "M1 1100 M0 M1 1100", ".....");
        reads(1, 5, "M1 1100 M0 000 M1 1100", ".....");
        reads(1, 5, "M0 M0 1", "");
        // Zeros without a 1 behind them are no mark: a row that lacks bits stands there.
        reads(0, 5, "M 1100 M" + all('0', 40), "..... !.....");
        reads(1, 5, "M1 1100 M1" + all('0', 40), "..... !.....");
        reads(1, 5, "M1 1100 M0" + all('0', 40), "..... !.....");
    }

    private static void theBitIsNoZeroOfAMark() {
        // Behind the bit 0 stand ten zeros and a 1: a row that is damaged, and no mark.
        reads(1, 5, "M1 1100 M0 0000000000 1 M1 1100 M1 M1", "..... !..... .....");
        reads(1, 5, "M1 1100 M0 00000000000 1 M1 1100 M1 M1", ".....");
        reads(0, 5, "M 1100 M 0000000000 1 M 1100 MM", "..... !..... .....");
    }

    private static void runsAddUp() {
        FaxRows x = fed(0, 3000, "M" + "11011".repeat(46) + "01011001 MM");
        due("rows", x.decode(), 1);
        due("46 of 64, and 56", x.damaged(0), false);
        x = fed(0, 3000, "M" + "11011".repeat(46) + "01011010 MM");
        x.decode();
        due("and one more goes beyond", x.damaged(0), true);
        x = fed(0, 1800, "M 11011 010011011 00110101 0000001111 00000001000 000101 MM");
        x.decode();
        due("in any order, white, and beyond in black", x.damaged(0), true);
        x = fed(0, 1800, "M 11011 010011011 000111 00011 MM");
        x.decode();
        due("in any order", changes(x, 0), "1793");
        x = fed(0, 64, "M 11011 M 11011 00110101 MM");
        due("rows", x.decode(), 2);
        due("a great code alone is no run", x.damaged(0), true);
        due("with that of 0 it is", x.damaged(1), false);
        x = fed(2, 200, "001 11011 11011 00110101 0000001111 000101 MM");
        due("rows", x.decode(), 1);
        due("behind horizontal", changes(x, 0), "128");
    }

    /** Row 1 is read by these bits, behind a good one in one dimension and before another. */
    private static void second(String above, String bits, String row) {
        reads(1, 5, "M1" + above + bits + "M1 1011 010 M1 M1",
                (above.equals("1100") ? "....." : above.equals("1011 010") ? "....X"
                : above.equals("000111 010 1000") ? ".X..." : "X....") + " " + row + " ....X");
    }

    private static void damagedIfNoCodeFits() {
        second("1100", "M1 00000000 1", "!.....");
        second("1100", "M1 0000 1111", "!.....");
        second("1100", "M1 1011 00000000 1", "!.....");
        second("1100", "M0 0000000 1", "!.....");
        second("1100", "M0 010 00000000 1", "!.....");
        second("1100", "M0 001 00000000 1", "!.....");
        second("1100", "M0 001 1011 00000000 1", "!.....");
        second("1100", "M1 1011", "!.....");
        second("1100", "M0 010", "!.....");
    }

    private static void damagedIfRunsGoBeyond() {
        second("1100", "M1 1100", ".....");
        second("1100", "M1 1110", "!.....");
        second("1100", "M1 1000 11", "...XX");
        second("1100", "M1 1000 10", "!.....");
        second("1100", "M1 1000 010 000111", "...X.");
        second("1100", "M1 1000 010 0111", "!.....");
        second("1100", "M1 11011 00110101", "!.....");
        second("1100", "M0 001 1000 11", "...XX");
        second("1100", "M0 001 1000 10", "!.....");
        second("1100", "M0 001 1100 0000110111", ".....");
        second("1100", "M0 001 1100 010", "!.....");
        second("1100", "M0 001 1110 0000110111", "!.....");
        second("1100", "M0 001 0111 010 001 0111 0000110111", "..X..");
        second("1100", "M0 001 0111 010 001 1000 0000110111", "!.....");
    }

    private static void damagedIfVerticalIsBeyond() {
        second("1100", "M0 1", ".....");
        second("1100", "M0 011", "!.....");
        second("1100", "M0 000011", "!.....");
        second("1100", "M0 0000011", "!.....");
        second("1011 010", "M0 011", ".....");
        second("1011 010", "M0 000011", "!.....");
        second("1011 010", "M0 1 011", "!.....");
        second("1011 010", "M0 1 1", "....X");
    }

    private static void damagedIfVerticalIsBeforeA0() {
        second("00110101 010 1011", "M0 010 1", "!.....");
        second("00110101 010 1011", "M0 000010 1", "!.....");
        second("00110101 010 1011", "M0 0000010 1", "!.....");
        second("00110101 010 1011", "M0 1 1 1", "X....");
        second("000111 010 1000", "M0 010 1 1", "XX...");
        second("000111 010 1000", "M0 000010 1 1", "!.....");
        // From 3 on, against the change above at 4: at 2.
        second("1011 010", "M0 001 1000 0000110111 000010 1", "!.....");
        second("1011 010", "M0 001 0111 010 000010 1", "!.....");
    }

    private static void damagedIfVerticalIsAtA0() {
        second("1011 010", "M0 001 1000 0000110111 010 1", "!.....");
        second("1011 010", "M0 001 1000 0000110111 1 1", "....X");
        second("1011 010", "M0 001 0111 0000110111 010 1", "...XX");
        // PASS to 2, then three left of the row's end is at a0, two left is not.
        second("000111 010 1000", "M0 0001 0000010 1", "!.....");
        second("000111 010 1000", "M0 0001 000010 1", "...XX");
        // VERTICAL at 1, then one left of the change above at 2 is at a0.
        second("000111 010 1000", "M0 1 010 1", "!.....");
        second("000111 010 1000", "M0 1 1 1", ".X...");
        // At the first sample it is so when something is told already, by runs of 0 too.
        reads(2, 3, "0000010 1 MM", "XXX");
        reads(2, 3, "001 00110101 0000110111 0000010 1 MM", "");
        reads(2, 3, "001 00110101 0000110111 000010 1 MM", ".XX");
    }

    private static void damagedIfBitsAreMissing() {
        reads(0, 5, endingSo("M 1011 010"), "....X");
        reads(0, 5, endingSo("M 1011 01"), "!.....");
        reads(0, 5, endingSo("M 1011"), "!.....");
        reads(0, 5, endingSo("M 101"), "!.....");
        reads(0, 5, endingSo("M"), "!.....");
        reads(0, 5, endingSo("M 11011"), "!.....");
        reads(0, 5, "M 1011 00000000", "!.....");
        reads(1, 5, endingSo("M1 1100 M0 010 1"), "..... ....X");
        reads(1, 5, endingSo("M1 1100 M0 010"), "..... !.....");
        reads(1, 5, endingSo("M1 1100 M0 01"), "..... !.....");
        reads(1, 5, endingSo("M1 1100 M0 001"), "..... !.....");
        reads(1, 5, endingSo("M1 1100 M0 001 1011"), "..... !.....");
        reads(1, 5, endingSo("M1 1100 M0 001 1011 010"), "..... ....X");
        reads(1, 5, endingSo("M1 1100 M0 000000"), "..... !.....");
    }

    private static void kind2EndsAtTwoMarks() {
        reads(2, 5, "MM 1 1 1", "");
        reads(2, 5, "1 MM 1 1 1", ".....");
        reads(2, 5, "010 1 1 1 MM 1 1 1", "....X ....X");
    }

    private static void kind2EndsWithoutBits() {
        reads(2, 5, "11111111", "..... ..... ..... ..... ..... ..... ..... .....");
        reads(2, 5, "1111 010 1", "..... ..... ..... ..... ....X");
        reads(2, 29, "001 00000010 00001 10111 111", all('.', 29) + (" " + all('.', 29)).repeat(3));
    }

    private static void kind2RowThatLacksBits() {
        reads(2, 5, "11111 010", "..... ..... ..... ..... .....");
        reads(2, 5, "111111 01", "..... ..... ..... ..... ..... .....");
        reads(2, 5, "11111 001", "..... ..... ..... ..... .....");
        reads(2, 5, "1 001 1011", ".....");
        reads(2, 5, "1 001 1110", ".....");
        reads(2, 5, "1111111 0", "..... ..... ..... ..... ..... ..... .....");
        reads(2, 5, "11 000000", "..... .....");
        reads(2, 5, "00000000", "");
        FaxRows x = fed(2, 5, "11111 010");
        x.decode();
        due("it is no row", x.damaged(5), false);
        due("and has no modes", x.mode(5, 0), FaxRows.NONE);
        due("and no changes", x.changes(5, 0), FaxRows.NONE);
        due("and no samples", throwsAt(x, 5, 5), false);
    }

    private static void kind2EndsBeforeDamage() {
        reads(2, 5, "1 011 1 1 1", ".....");
        reads(2, 5, "1 001 1011 11 1 1", ".....");
        reads(2, 5, "1 010 011 1 1", ".....");
        reads(2, 5, "1 00000000 1 1 1", ".....");
        reads(2, 5, "011 1 1 1", "");
        FaxRows x = fed(2, 5, "1 010 011 1 1");
        x.repair(1);
        due("by either rule", picture(x, 5), ".....");
        due("it is no row", x.damaged(1), false);
        due("and has no modes", x.mode(1, 0), FaxRows.NONE);
        due("and no changes", x.changes(1, 0), FaxRows.NONE);
    }

    private static void whiteOrThatAbove() {
        String bits = "M1 00000000 1  M1 1011 010  M1 00000000 1  M0 011 1  M0 1 1  M1 M1";
        FaxRows x = fed(1, 5, bits);
        due("white", picture(x, 5), "!..... ....X !..... !..... .....");
        x.repair(1);
        due("that above", picture(x, 5), "!..... ....X !....X ..... .....");
        String twice = "M 00110101 010 1011  M 00000000 1  M 1110  M 1100  M 1110 MM";
        FaxRows y = fed(0, 5, twice);
        due("white, each", picture(y, 5), "X.... !..... !..... ..... !.....");
        y.repair(1);
        due("that above, also of damaged ones", picture(y, 5), "X.... !X.... !X.... ..... !.....");
        due("its changes", changes(y, 2), "0 1");
    }

    private static void extensionWhereAModeIsRead() {
        reads(2, 5, "0000001 0", "-2");
        reads(2, 5, "1 0000001", "-2");
        reads(2, 5, "010 0000001 MM", "-2");
        reads(2, 5, "0000010 1 MM", "..XXX");
        reads(2, 5, "0000011 1 MM", "");
        reads(2, 5, "00000001 1111 1111", "");
        reads(1, 5, "M1 1100 M0 0000001 M1 1100 M1 M1", "-2");
        reads(1, 5, "M0 0000001", "-2");
        // Behind what is damaged already no mode is read.
        reads(1, 5, "M0 011 0000001 M1 1100 M1 M1", "!..... .....");
        reads(2, 5, "1 011 0000001 MM", ".....");
    }

    private static void noExtensionWhereRunsAreRead() {
        reads(0, 29, "M 00000010 MM", all('.', 29));
        reads(1, 30, "M1 00000011 M1 M1", all('.', 30));
        reads(0, 5, "M 0000001 0 M 1100 MM", "!..... .....");
        reads(1, 5, "M1 0000001 0 M1 1100 M1 M1", "!..... .....");
        reads(2, 29, "001 00000010 0000110111 MM", all('.', 29));
        reads(2, 5, "1 001 00000010 MM", ".....");
        reads(2, 18, "001 00110101 0000001000 MM", all('X', 18));
    }

    private static void whatThrowsChangesNothing() {
        FaxRows x = fed(1, 5, "M1 1011 010  M0 1 1  M1 00000000 1  M1 M1");
        make(x, "X....");
        x.put(1, true);
        int bytes = x.encode();
        String before = picture(x, 5);
        due("rows", before, "....X ....X !.....");
        for (int column : new int[] {LEAST, -1, 5, GREATEST}) {
            for (int row = 0; row < 3; row++) {
                due("it throws", throwsAt(x, column, row), true);
            }
        }
        due("rows as before", pictureOf(x, 3, 5), before);
        due("modes as before", modes(x, 1), "5 5");
        due("changes as before", changes(x, 0), "4");
        due("bytes as before", x.encode(), bytes);
        due("read as before", picture(x, 5), before);
        x.clear();
        make(x, ".....");
        due("and the row that is made was there", written(x), padded("M1 1100" + SIX_OF_KIND_1));
    }

    // The promises.

    private static void none() {
        due("NONE", FaxRows.NONE, -1);
        due("what stands for it", new FaxRows(0, 5).byteAt(0), -1);
    }

    private static void nearestKind() {
        int[] kinds = {LEAST, -2, -1, 0, 1, 2, 3, 4, GREATEST};
        String[] due = {SIX, SIX, SIX, SIX, SIX_OF_KIND_1, "MM", "MM", "MM", "MM"};
        for (int i = 0; i < kinds.length; i++) {
            writes(new FaxRows(kinds[i], 5), due[i]);
        }
    }

    private static void nearestWidth() {
        int[] widths = {LEAST, -3000, -1, 0, 1, 2, 2999, 3000, 3001, GREATEST};
        int[] due = {1, 1, 1, 1, 1, 2, 2999, 3000, 3000, 3000};
        for (int i = 0; i < widths.length; i++) {
            FaxRows x = new FaxRows(0, widths[i]);
            due("the last sample of " + widths[i], x.put(due[i] - 1, true), true);
            due("one more of " + widths[i], x.put(due[i], true), false);
            x.endRow();
            x.encode();
            due("rows", x.decode(), 1);
            due("the last sample is black", x.at(due[i] - 1, 0), true);
            due("one more throws", throwsAt(x, due[i], 0), true);
        }
    }

    private static void putOfNoSuch() {
        FaxRows x = new FaxRows(0, 5);
        int[] none = {LEAST, LEAST + 1, -32, -1, 5, 6, 31, 32, 64, 3000, GREATEST};
        for (int place : none) {
            due("put " + place, x.put(place, true), false);
            due("put " + place + " white", x.put(place, false), false);
        }
        due("put 0", x.put(0, true), true);
        due("put 4", x.put(4, true), true);
        for (int place : none) {
            x.put(place, true);
            x.put(place, false);
        }
        x.endRow();
        x.encode();
        due("nothing else changed", picture(x, 5), "X...X");
    }

    private static void putAllWhiteAtFirst() {
        FaxRows x = new FaxRows(0, 5);
        due("white where it was white", x.put(2, false), true);
        x.endRow();
        due("black", x.put(2, true), true);
        due("black twice", x.put(2, true), true);
        x.endRow();
        x.put(2, true);
        due("white again", x.put(2, false), true);
        x.endRow();
        x.encode();
        due("rows", picture(x, 5), "..... ..X.. .....");
    }

    private static void endRowOf24() {
        for (int kind = 0; kind <= 2; kind++) {
            FaxRows x = new FaxRows(kind, 3);
            for (int y = 0; y < 24; y++) {
                x.put(y % 3, true);
                due("row " + y, x.endRow(), true);
            }
            x.put(0, true);
            int bytes = x.encode();
            due("row 24", x.endRow(), false);
            due("row 24 once more", x.endRow(), false);
            due("as many bytes", x.encode(), bytes);
            due("rows", picture(x, 3), "X.. .X. ..X" + " X.. .X. ..X".repeat(7));
            x.clear();
            due("room again", x.endRow(), true);
        }
    }

    private static void endRowMakesANewOneWhite() {
        FaxRows x = made(0, 40, all('X', 40));
        due("a row without put", x.endRow(), true);
        x.encode();
        due("rows", picture(x, 40), all('X', 40) + " " + all('.', 40));
    }

    private static void encodeOfAllThatStay() {
        FaxRows x = new FaxRows(0, 5);
        due("no rows", x.encode(), 9);
        x.put(0, true);
        due("a row that is made is none yet", x.encode(), 9);
        x.endRow();
        String one = "M 00110101 010 1011";
        writes(x, one + SIX);
        writes(x, one + SIX);
        x.endRow();
        writes(x, one + "M 1100" + SIX);
        x.decode();
        writes(x, one + "M 1100" + SIX);
        FaxRows full = new FaxRows(0, 5);
        for (int y = 0; y < 24; y++) {
            full.endRow();
        }
        writes(full, "M 1100".repeat(24) + SIX);
        full.fill(4000);
        due("the most bytes", full.encode(), (24 * 4012 + 72) / 8);
        due("all rows", full.decode(), 24);
    }

    private static void byteAtNone() {
        FaxRows x = new FaxRows(2, 5);
        for (int i : new int[] {LEAST, -1, 0, 1, GREATEST}) {
            due("nothing written: " + i, x.byteAt(i), FaxRows.NONE);
        }
        x.feed(255);
        due("fed is not written", x.byteAt(0), FaxRows.NONE);
        x.endRow();
        due("bytes", x.encode(), 4);
        int[] due = {128, 8, 0, 128};
        for (int i = 0; i < due.length; i++) {
            due("byte " + i, x.byteAt(i), due[i]);
        }
        for (int i : new int[] {LEAST, LEAST + 1, -8, -1, 4, 5, 63, 64, GREATEST}) {
            due("byte " + i, x.byteAt(i), FaxRows.NONE);
        }
    }

    private static void byteAtOfTheLast() {
        FaxRows x = made(0, 5, ".....");
        x.fill(400);
        int many = x.encode();
        due("bytes with fill", many, (12 + 400 + 72 + 7) / 8);
        due("the last one", x.byteAt(many - 1), 16);
        x.fill(0);
        due("as it was written", x.byteAt(many - 1), 16);
        due("bytes without", x.encode(), 11);
        due("the last one now", x.byteAt(10), 1);
        due("none behind it", x.byteAt(11), FaxRows.NONE);
        due("nor where one was", x.byteAt(many - 1), FaxRows.NONE);
        due("that alone is read", x.decode(), 1);
        x.endRow();
        x.order(true);
        due("as it was written, whatever comes", x.byteAt(10), 1);
    }

    private static void feedOfTheLowestEightBits() {
        // 11100000 is three white rows at a width of 1, and nothing behind them.
        int[] same = {0xE0, 0x1E0, 0xFFFFFFE0, 0x7FFFFFE0, LEAST + 0xE0, -32};
        for (int b : same) {
            FaxRows x = new FaxRows(2, 1);
            due("feed " + b, x.feed(b), true);
            due("rows of " + b, x.decode(), 3);
        }
        int[] none = {0, 256, LEAST, 0x7FFFFF00, -256};
        for (int b : none) {
            FaxRows x = new FaxRows(2, 1);
            due("feed " + b, x.feed(b), true);
            due("rows of " + b, x.decode(), 0);
        }
        int[] full = {255, -1, GREATEST, 511};
        for (int b : full) {
            FaxRows x = new FaxRows(2, 1);
            due("feed " + b, x.feed(b), true);
            due("rows of " + b, x.decode(), 8);
        }
    }

    /** Behind an object's 512th call what it answers is free: this is how the class answers. */
    private static void feedOf2000() {
        FaxRows x = new FaxRows(0, 5);
        for (int i = 0; i < 2000; i++) {
            due("feed " + i, x.feed(0), true);
        }
        due("feed 2000", x.feed(255), false);
        due("once more", x.feed(0), false);
        due("and it is not read", x.decode(), 0);
        x.clear();
        due("room again", x.feed(0), true);
    }

    private static void decodeFromTheBeginning() {
        FaxRows x = fed(2, 5, "1111 0101");
        due("rows", picture(x, 5), "..... ..... ..... ..... ....X");
        due("once more", picture(x, 5), "..... ..... ..... ..... ....X");
        feed(x, "1101 0 000");
        due("and more", picture(x, 5), "..... ..... ..... ..... ....X ....X");
        x.encode();
        due("whatever is written", picture(x, 5), "..... ..... ..... ..... ....X ....X");
    }

    private static void decodeOfWhatWasWrittenLast() {
        FaxRows x = made(2, 5, "XXXXX");
        x.encode();
        due("written", picture(x, 5), "XXXXX");
        make(x, ".....");
        due("not what is to be written", picture(x, 5), "XXXXX");
        x.encode();
        due("but what was written last", picture(x, 5), "XXXXX .....");
        x.feed(0);
        due("and nothing of it when a byte is fed", x.decode(), 0);
        nothingIsRead(x);
    }

    private static void decodeOfNothing() {
        for (int kind = 0; kind <= 2; kind++) {
            FaxRows x = new FaxRows(kind, 5);
            due("new", x.decode(), -1);
            nothingIsRead(x);
            x.put(0, true);
            x.endRow();
            due("rows that are not written", x.decode(), -1);
            x.encode();
            due("written", x.decode(), 1);
            x.clear();
            due("cleared", x.decode(), -1);
            nothingIsRead(x);
            x.encode();
            due("written without rows", x.decode(), 0);
            nothingIsRead(x);
        }
    }

    private static void decodeOfAnExtension() {
        FaxRows x = fed(2, 5, "1111 0101");
        due("rows", x.decode(), 5);
        x.feed(2);
        due("an extension", x.decode(), -2);
        nothingIsRead(x);
        due("once more", x.decode(), -2);
        FaxRows two = fed(1, 5, "M1 1011 010 M0 0000001 M1 1100 M1 M1");
        due("an extension with marks", two.decode(), -2);
        nothingIsRead(two);
        two.clear();
        feed(two, "M1 1011 010 M1 M1");
        due("and behind it", picture(two, 5), "....X");
    }

    private static void decodeOfMoreThan24() {
        String[] rows = {"M 1100", "M1 1100", "1"};
        String[] ends = {"MM", "M1 M1", "MM"};
        for (int kind = 0; kind <= 2; kind++) {
            due("24 rows", fed(kind, 5, rows[kind].repeat(24) + ends[kind]).decode(), 24);
            FaxRows x = fed(kind, 5, rows[kind].repeat(25) + ends[kind]);
            due("25 rows", x.decode(), -3);
            nothingIsRead(x);
            due("once more", x.decode(), -3);
        }
        due("the 25th is damaged", fed(0, 5, "M 1100".repeat(24) + "M 1110 MM").decode(), -3);
        FaxRows hurt = fed(0, 5, "M 1100".repeat(23) + "M 1110 MM");
        due("the 24th is damaged", hurt.decode(), 24);
        due("and is there", hurt.damaged(23), true);
        due("but the one before it is not", hurt.damaged(22), false);
        due("24 without an end", fed(0, 5, "M 1100".repeat(24)).decode(), 24);
        due("24 of kind 2 and damage", fed(2, 5, "1".repeat(24) + "0000 0000").decode(), 24);
        due("24 of kind 2 and no bits", fed(2, 5, "1".repeat(24)).decode(), 24);
        FaxRows x = fed(2, 5, "1".repeat(24));
        x.decode();
        x.feed(128);
        due("one row more", x.decode(), -3);
        nothingIsRead(x);
    }

    private static void atOfNoSuchRow() {
        FaxRows x = fed(0, 5, "M 00110101 0011 M 00110101 0011 MM");
        x.decode();
        for (int row : new int[] {LEAST, -1, 2, 3, 23, 24, 25, GREATEST}) {
            for (int column : new int[] {LEAST, -1, 0, 4, 5, GREATEST}) {
                due("at(" + column + ", " + row + ") throws", throwsAt(x, column, row), false);
                due("at(" + column + ", " + row + ")", x.at(column, row), false);
            }
        }
        due("at(0, 1)", x.at(0, 1), true);
    }

    private static void atOfNoSuchSample() {
        FaxRows x = fed(0, 5, "M 00110101 0011 M 1110 MM");
        x.decode();
        for (int row = 0; row < 2; row++) {
            for (int column : new int[] {LEAST, LEAST + 1, -32, -1, 5, 6, 32, 3000, GREATEST}) {
                due("at(" + column + ", " + row + ") throws", throwsAt(x, column, row), true);
            }
            due("at(0, " + row + ")", x.at(0, row), row == 0);
            due("at(4, " + row + ")", x.at(4, row), row == 0);
        }
    }

    private static void damagedOfNoSuchRow() {
        FaxRows x = fed(0, 5, "M 1110 M 1100 M 1110 MM");
        due("nothing is read yet", x.damaged(0), false);
        due("rows", x.decode(), 3);
        due("row 0", x.damaged(0), true);
        due("row 1", x.damaged(1), false);
        due("row 2", x.damaged(2), true);
        for (int row : new int[] {LEAST, -1, 3, 24, 25, GREATEST}) {
            due("row " + row, x.damaged(row), false);
        }
        x.clear();
        feed(x, "M 1100 MM");
        x.decode();
        due("row 0 of what was read last", x.damaged(0), false);
        due("row 2 of what was read last", x.damaged(2), false);
    }

    private static void changesNone() {
        FaxRows x = fed(0, 5, "M 00110101 010 1000 010 M 1100 M 1110 MM");
        due("nothing is read yet", x.changes(0, 0), FaxRows.NONE);
        x.decode();
        due("change 0", x.changes(0, 0), 0);
        due("change 1", x.changes(0, 1), 1);
        due("change 2", x.changes(0, 2), 4);
        for (int k : new int[] {LEAST, -1, 3, 4, 3000, GREATEST}) {
            due("change " + k, x.changes(0, k), FaxRows.NONE);
        }
        for (int row : new int[] {LEAST, -1, 1, 2, 3, 24, 25, GREATEST}) {
            due("of row " + row, x.changes(row, 0), FaxRows.NONE);
        }
        FaxRows zeros = fed(0, 5, "M 0111 0000110111 1000  M 00110101 0000110111 1011 010  MM");
        due("rows", zeros.decode(), 2);
        due("runs of 0 make no change", changes(zeros, 0), "");
        due("nor at the first sample", changes(zeros, 1), "4");
        zeros = fed(0, 5, "M 00110101 010 1011  M 0111 0000110111 000111 11  MM");
        due("rows", zeros.decode(), 2);
        due("nor below a row with changes", changes(zeros, 1), "3");
    }

    private static void changesAsItStandsThere() {
        FaxRows x = fed(0, 5, "M 1011 010 M 1000 010 00000000 1 M 1100 MM");
        due("rows", picture(x, 5), "....X !..... .....");
        due("a damaged row is white", changes(x, 1), "");
        x.repair(1);
        due("as it was read", changes(x, 1), "");
        due("rows", picture(x, 5), "....X !....X .....");
        due("or has those above", changes(x, 1), "4");
    }

    private static void modeNone() {
        FaxRows x = fed(1, 5, "M1 1100  M0 010 1  M0 011  M0 010 011  M1 M1");
        due("nothing is read yet", x.mode(1, 0), FaxRows.NONE);
        due("rows", picture(x, 5), "..... ....X ..... !.....");
        due("in one dimension", modes(x, 0), "");
        due("in two", modes(x, 1), "4 5");
        due("in two, up to the end", modes(x, 2), "6");
        due("of a damaged one, though a mode fitted", modes(x, 3), "");
        for (int k : new int[] {LEAST, -1, 2, 3, 3003, 3004, GREATEST}) {
            due("mode " + k, x.mode(1, k), FaxRows.NONE);
        }
        for (int row : new int[] {LEAST, -1, 0, 3, 4, 24, 25, GREATEST}) {
            due("of row " + row, x.mode(row, 0), FaxRows.NONE);
        }
        x.repair(1);
        due("rows", picture(x, 5), "..... ....X ..... !.....");
        due("nor of one that is that above", modes(x, 3), "");
        FaxRows again = fed(1, 5, "M1 1100  M0 010 1  M0 1 011  M1 M1");
        again.repair(1);
        due("rows", picture(again, 5), "..... ....X !....X");
        due("nor of one that has modes above it", modes(again, 2), "");
    }

    private static void modesOfEachSort() {
        String[] rights = {"0000010", "000010", "010", "1", "011", "000011", "0000011"};
        for (int i = 0; i < rights.length; i++) {
            FaxRows x = fed(1, 20, "M1 00111 0000100  M0" + rights[i] + "1 M1 M1");
            due("rows", x.decode(), 2);
            due("vertical by " + (i - 3), modes(x, 1), (i + 2) + " 5");
            due("its change", changes(x, 1), String.valueOf(7 + i));
        }
        FaxRows x = fed(1, 20, "M1 1000 10 110100  M0 0001 001 00110101 010 1 M1 M1");
        due("rows", x.decode(), 2);
        due("pass, horizontal, vertical", modes(x, 1), "0 1 5");
        due("changes", changes(x, 1), "6 7");
    }

    /** Mode 3003 is further than a row of 3000 that is written ever comes: 3001 are the most. */
    private static void modesOfTheWidestRow() {
        FaxRows x = new FaxRows(1, 3000);
        for (int y = 0; y < 2; y++) {
            for (int i = 0; i < 3000; i += 2) {
                x.put(i, true);
            }
            x.endRow();
        }
        x.encode();
        due("rows", x.decode(), 2);
        for (int k = 0; k <= 3000; k++) {
            due("mode " + k, x.mode(1, k), 5);
        }
        for (int k = 3001; k <= 3004; k++) {
            due("mode " + k, x.mode(1, k), FaxRows.NONE);
        }
    }

    /** Runs of 0 tell no sample, so that a row has as many modes as there are bytes for. */
    private static void modesOfRunsOf0() {
        FaxRows x = fed(2, 5, "001 00110101 0000110111".repeat(760) + "1 MM");
        due("rows", x.decode(), 1);
        for (int k = 0; k < 760; k++) {
            due("mode " + k, x.mode(0, k), 1);
        }
        due("mode 760", x.mode(0, 760), 5);
        due("mode 761", x.mode(0, 761), FaxRows.NONE);
        due("no changes", x.changes(0, 0), FaxRows.NONE);
    }

    private static void fillOfOthers() {
        FaxRows x = made(0, 5, ".....");
        writes(x, "M 1100" + SIX);
        due("fill 5", x.fill(5), true);
        for (int bits : new int[] {LEAST, LEAST + 1, -4000, -1, 4001, 4002, 65536, GREATEST}) {
            due("fill " + bits, x.fill(bits), false);
            writes(x, "M 1100 0" + SIX);
        }
        due("fill 4000", x.fill(4000), true);
        due("bytes", x.encode(), (12 + 4000 + 72 + 7) / 8);
        due("fill 3999", x.fill(3999), true);
        writes(x, "M 1100" + all('0', 3995) + SIX);
        due("fill 1", x.fill(1), true);
        writes(x, "M 1100" + SIX);
        due("fill 0", x.fill(0), true);
        writes(x, "M 1100" + SIX);
    }

    private static void repairOfOthers() {
        String bits = "M 1011 010 M 1110 MM";
        for (int rule : new int[] {LEAST, -1, 2, 3, 256, GREATEST}) {
            FaxRows x = fed(0, 5, bits);
            due("rule " + rule, x.repair(rule), false);
            due("white as at first", picture(x, 5), "....X !.....");
            due("rule 1", x.repair(1), true);
            due("rule " + rule, x.repair(rule), false);
            due("that above as before", picture(x, 5), "....X !....X");
            due("rule 0", x.repair(0), true);
            due("white again", picture(x, 5), "....X !.....");
        }
    }

    private static void orderOtherwise() {
        FaxRows x = new FaxRows(0, 5);
        due("the highest first, at first", x.order(false), 0);
        due("otherwise", x.order(true), 1);
        due("as it was", x.order(true), 0);
        due("otherwise again", x.order(false), 1);
        due("as it was again", x.order(false), 0);
        FaxRows first = new FaxRows(0, 5);
        due("otherwise at once", first.order(true), 1);
        first.clear();
        due("clear leaves it", first.order(true), 0);
    }

    private static void orderOfWhatIsThere() {
        FaxRows x = new FaxRows(2, 5);
        x.feed(0b11111010);
        due("from the highest on", picture(x, 5), "..... ..... ..... ..... .....");
        x.order(true);
        due("from the lowest on", picture(x, 5), "....X ....X ....X");
        FaxRows y = made(2, 5, ".....");
        y.encode();
        y.order(true);
        due("bytes stay as they were written", y.byteAt(0), 128);
        due("and are read otherwise", y.decode(), 0);
        y.encode();
        due("bytes are written otherwise", y.byteAt(0), 1);
        due("and read so", y.decode(), 1);
        y.order(false);
        writes(y, "1 MM");
        due("back again", picture(y, 5), ".....");
        x.order(false);
        due("back to the highest", picture(x, 5), "..... ..... ..... ..... .....");
    }

    private static void clearOfRows() {
        FaxRows x = made(0, 5, "XXXXX", "X....");
        x.clear();
        writes(x, SIX);
        for (int y = 0; y < 24; y++) {
            due("room for row " + y, x.endRow(), true);
        }
        due("and for no more", x.endRow(), false);
    }

    private static void clearOfWhatIsWritten() {
        FaxRows x = made(0, 5, "XXXXX");
        int bytes = x.encode();
        x.clear();
        for (int i = 0; i < bytes; i++) {
            due("byte " + i, x.byteAt(i), FaxRows.NONE);
        }
        due("nothing to read", x.decode(), -1);
        x.endRow();
        writes(x, "M 1100" + SIX);
    }

    private static void clearOfWhatIsFed() {
        FaxRows x = fed(2, 5, "1111 1111 1111 1111");
        x.clear();
        due("nothing to read", x.decode(), -1);
        feed(x, "1101 0 000");
        due("but what is fed from then on", picture(x, 5), "..... .....");
        x.clear();
        x.endRow();
        x.encode();
        due("or written", x.decode(), 1);
    }

    private static void clearOfWhatIsRead() {
        FaxRows x = fed(1, 5, "M1 1011 010 M0 1 1 M1 1110 M1 M1");
        due("rows", picture(x, 5), "....X ....X !.....");
        x.clear();
        nothingIsRead(x);
        due("sample 5 throws", throwsAt(x, 5, 0), false);
        feed(x, "M0 1 M1 M1");
        due("the row above the first is white", picture(x, 5), ".....");
    }

    private static void clearOfTheRowThatIsMade() {
        FaxRows x = new FaxRows(0, 40);
        for (int i = 0; i < 40; i++) {
            x.put(i, true);
        }
        x.clear();
        x.endRow();
        x.encode();
        due("it is white", picture(x, 40), all('.', 40));
    }

    private static void clearOfNothing() {
        FaxRows x = new FaxRows(0, 5);
        x.clear();
        x.clear();
        due("nothing to read", x.decode(), -1);
        due("nothing written", x.byteAt(0), FaxRows.NONE);
        nothingIsRead(x);
        writes(x, SIX);
    }

    private static void clearLeavesTheSettings() {
        FaxRows x = new FaxRows(0, 5);
        x.fill(9);
        x.repair(1);
        x.clear();
        x.endRow();
        writes(x, "M 1100 00000" + SIX);
        feed(x, "M 1011 010 M 1110 MM");
        due("the rule", picture(x, 5), "....X !....X");
    }

    private static void testTermsOfWriting() {
        test("Terms: A ROW has as many SAMPLES as told", FaxRowsBoundaries::samplesAsTold);
        test("Terms: each fourth ROW, from the first on, is in one",
                FaxRowsBoundaries::eachFourthInOne);
        test("Terms: in each BYTE from the highest on (or from the lowest, as told)",
                FaxRowsBoundaries::bitOrder);
        test("Terms: at the end 0 up to a whole BYTE", FaxRowsBoundaries::wholeBytesAtTheEnd);
        test("Terms: at the end six MARKS .. two MARKS", FaxRowsBoundaries::marksAtTheEnd);
        test("Terms: 1 if the ROW behind it is in one dimension (and at the end), else 0",
                FaxRowsBoundaries::bitBehindTheMark);
        test("Terms: a ROW whose RUNS or MODES take less than f bits has as many 0 behind them as"
                + " bring it there", FaxRowsBoundaries::fillBringsItThere);
        test("Terms: a ROW whose RUNS or MODES take less than f bits",
                FaxRowsBoundaries::fillOfEachRowByItself);
        test("Terms: With FILL f, of KINDS 0 and 1", FaxRowsBoundaries::noFillOfKind2);
        test("Terms: white first (perhaps of 0)", FaxRowsBoundaries::whiteFirst);
        test("Terms: up to the ROW's end", FaxRowsBoundaries::upToTheEnd);
        test("Terms: while n is 2560 or more", FaxRowsBoundaries::from2560On);
        test("Terms: if n is 64 or more", FaxRowsBoundaries::from64On);
        test("Terms: (before the first one: white)", FaxRowsBoundaries::whiteBeforeTheFirstSample);
        test("Terms: (white before the first)", FaxRowsBoundaries::whiteBeforeTheFirstRow);
        test("Terms: at first just before it, with the colour white",
                FaxRowsBoundaries::a0JustBeforeTheRow);
        test("Terms: (at a0, or behind, when nothing is told yet",
                FaxRowsBoundaries::a1WhenNothingIsTold);
        test("Terms: the ROW's end without one)", FaxRowsBoundaries::a1AtTheEnd);
        test("Terms: the first CHANGE of the ROW ABOVE behind a0", FaxRowsBoundaries::b1BehindA0);
        test("Terms: to the colour that a0 has not", FaxRowsBoundaries::b1ToTheOtherColour);
        test("Terms: (both the ROW's end without one)", FaxRowsBoundaries::b1AndB2AtTheEnd);
        test("Terms: If b2 is before a1", FaxRowsBoundaries::b2BeforeA1);
        test("Terms: Else if a1 is within three of b1", FaxRowsBoundaries::withinThree);
        test("Terms: the RUN from a0 (the first SAMPLE, when nothing is told yet)",
                FaxRowsBoundaries::horizontalFromTheFirstSample);
        test("Terms: Until a0 is the ROW's end", FaxRowsBoundaries::untilTheEnd);
    }

    private static void testTermsOfReading() {
        test("READING: the next place with eleven 0 or more, then 1",
                FaxRowsBoundaries::elevenZerosOrMore);
        test("READING: from the beginning on", FaxRowsBoundaries::fromTheBeginningOn);
        test("READING: behind a ROW from behind the last code that fitted",
                FaxRowsBoundaries::behindTheLastCode);
        test("READING: behind a ROW from behind the last code that fitted (a DAMAGED one)",
                FaxRowsBoundaries::behindTheLastCodeOfADamagedRow);
        test("READING: where there is none, it ends", FaxRowsBoundaries::noMarkEndsIt);
        test("READING: with KIND 1 also where no bit is behind it",
                FaxRowsBoundaries::noBitBehindIt);
        test("READING: If another MARK (0 or more, then eleven 0 and 1) comes at once, it ends",
                FaxRowsBoundaries::twoMarksEndIt);
        test("READING: with KIND 1 behind the bit", FaxRowsBoundaries::theBitIsNoZeroOfAMark);
        test("READING: a RUN is the sum of codes up to and with the first that is below 64,"
                + " however many great ones stand before it", FaxRowsBoundaries::runsAddUp);
        test("READING: It is DAMAGED if no code fits", FaxRowsBoundaries::damagedIfNoCodeFits);
        test("READING: RUNS go beyond the ROW's end", FaxRowsBoundaries::damagedIfRunsGoBeyond);
        test("READING: a1 of VERTICAL is beyond it", FaxRowsBoundaries::damagedIfVerticalIsBeyond);
        test("READING: or before a0", FaxRowsBoundaries::damagedIfVerticalIsBeforeA0);
        test("READING: (or at it, when something is told already)",
                FaxRowsBoundaries::damagedIfVerticalIsAtA0);
        test("READING: or bits are missing", FaxRowsBoundaries::damagedIfBitsAreMissing);
        test("READING: it ends at two MARKS", FaxRowsBoundaries::kind2EndsAtTwoMarks);
        test("READING: where no bits are left", FaxRowsBoundaries::kind2EndsWithoutBits);
        test("READING: (a ROW that lacks some is none)", FaxRowsBoundaries::kind2RowThatLacksBits);
        test("READING: before a ROW that would be DAMAGED",
                FaxRowsBoundaries::kind2EndsBeforeDamage);
        test("READING: A DAMAGED ROW is white, or that above it, by the RULE",
                FaxRowsBoundaries::whiteOrThatAbove);
        test("READING: Where a MODE is read, 0000001 is an EXTENSION",
                FaxRowsBoundaries::extensionWhereAModeIsRead);
        test("READING: (in two dimensions alone)", FaxRowsBoundaries::noExtensionWhereRunsAreRead);
        test("What throws changes nothing", FaxRowsBoundaries::whatThrowsChangesNothing);
    }

    private static void testPromises1To7() {
        test("The public face: NONE = -1", FaxRowsBoundaries::none);
        test("1: A KIND (0 .. 2); for other numbers the nearest", FaxRowsBoundaries::nearestKind);
        test("1: a width (1 .. 3000); for other numbers the nearest",
                FaxRowsBoundaries::nearestWidth);
        test("2: false if there is no such", FaxRowsBoundaries::putOfNoSuch);
        test("2: all white at first", FaxRowsBoundaries::putAllWhiteAtFirst);
        test("3: false if there are 24", FaxRowsBoundaries::endRowOf24);
        test("3: and a new one is white", FaxRowsBoundaries::endRowMakesANewOneWhite);
        test("4: All these ROWS are written (and stay to be written)",
                FaxRowsBoundaries::encodeOfAllThatStay);
        test("5: NONE", FaxRowsBoundaries::byteAtNone);
        test("5: of what was written last", FaxRowsBoundaries::byteAtOfTheLast);
        test("6: (the lowest eight bits)", FaxRowsBoundaries::feedOfTheLowestEightBits);
        test("6: false if there are 2000", FaxRowsBoundaries::feedOf2000);
        test("7: from its beginning, and stays", FaxRowsBoundaries::decodeFromTheBeginning);
        test("7: (if nothing was, what was written last)",
                FaxRowsBoundaries::decodeOfWhatWasWrittenLast);
        test("7: -1 there is nothing", FaxRowsBoundaries::decodeOfNothing);
        test("7: -2 an EXTENSION was met: no ROWS are read then",
                FaxRowsBoundaries::decodeOfAnExtension);
        test("7: -3 there are more than 24 ROWS: no ROWS are read then",
                FaxRowsBoundaries::decodeOfMoreThan24);
    }

    private static void testPromises8To15() {
        test("8: false if there is no such ROW", FaxRowsBoundaries::atOfNoSuchRow);
        test("8: the ROW has no SAMPLE x", FaxRowsBoundaries::atOfNoSuchSample);
        test("9: Whether ROW y that was read was DAMAGED", FaxRowsBoundaries::damagedOfNoSuchRow);
        test("10: NONE", FaxRowsBoundaries::changesNone);
        test("10: (as it stands there)", FaxRowsBoundaries::changesAsItStandsThere);
        test("11: NONE, also of DAMAGED ones", FaxRowsBoundaries::modeNone);
        test("11: by how much right (6 .. 8) or left (4 .. 2)", FaxRowsBoundaries::modesOfEachSort);
        test("11: MODE k, 0 .. 3003", FaxRowsBoundaries::modesOfTheWidestRow);
        test("11: MODE k of runs of 0", FaxRowsBoundaries::modesOfRunsOf0);
        test("12: false for others", FaxRowsBoundaries::fillOfOthers);
        test("13: false for others", FaxRowsBoundaries::repairOfOthers);
        test("14: 1 if it was otherwise, else 0", FaxRowsBoundaries::orderOtherwise);
        test("14: BYTES are written, and read, from the lowest bit on",
                FaxRowsBoundaries::orderOfWhatIsThere);
        test("15: No ROWS", FaxRowsBoundaries::clearOfRows);
        test("15: nothing written", FaxRowsBoundaries::clearOfWhatIsWritten);
        test("15: nothing fed", FaxRowsBoundaries::clearOfWhatIsFed);
        test("15: nothing read", FaxRowsBoundaries::clearOfWhatIsRead);
        test("15: the ROW that is made is white", FaxRowsBoundaries::clearOfTheRowThatIsMade);
        test("15: of nothing", FaxRowsBoundaries::clearOfNothing);
        test("15: FILL, RULE and order are not named", FaxRowsBoundaries::clearLeavesTheSettings);
    }

    public static void main(String[] args) {
        testTermsOfWriting();
        testTermsOfReading();
        testPromises1To7();
        testPromises8To15();
        System.out.println(asked + " answers asked for, " + wrong + " wrong");
        if (wrong != 0) {
            System.exit(1);
        }
    }
}
