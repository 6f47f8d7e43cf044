import java.util.Arrays;

/**
 * Rows of black and white samples, written and read by the facsimile codes: in one dimension by
 * runs, in two by changes against the row above.
 *
 * <p>Inside, a row is the list of its changes: the places of samples that are other than the one
 * before them. Changes of even number are to black, those of odd number to white.
 */
public final class FaxRows {
    public static final int NONE = -1;

    private static final int MOST_WIDTH = 3000;
    private static final int MOST_ROWS = 24;
    private static final int MOST_FED = 2000;
    private static final int MOST_FILL = 4000;
    private static final int MOST_MODES = 3004;

    private static final int KIND_ONE = 0;
    private static final int KIND_MIXED = 1;
    private static final int KIND_UNMARKED = 2;

    private static final int NOTHING = -1;
    private static final int EXTENSION_MET = -2;
    private static final int TOO_MANY_ROWS = -3;

    private static final int PASS = 0;
    private static final int HORIZONTAL = 1;
    private static final int VERTICAL = 5;
    private static final int EXTENSION = 9;

    /*
     * A code is held as a number whose highest 1 stands before the code's own bits: what is
     * behind the "_" is the code as the document writes it.
     */
    private static final int MARK = 0b1_000000000001;
    private static final int MARK_ZEROS = 11;
    private static final int BIT_0 = 0b1_0;
    private static final int BIT_1 = 0b1_1;
    private static final int NO_CODE = 0b1;
    private static final int LONGEST_CODE = 13;

    /** By the numbers that mode() answers, and the extension behind them. */
    private static final int[] MODES = {
        0b1_0001, 0b1_001, 0b1_0000010, 0b1_000010, 0b1_010, 0b1_1, 0b1_011, 0b1_000011,
        0b1_0000011, 0b1_0000001,
    };

    /** Runs of 0 to 63, then of 64, 128 and so on to 1728. */
    private static final int[] WHITE_RUNS = {
        0b1_00110101, 0b1_000111, 0b1_0111, 0b1_1000, 0b1_1011, 0b1_1100, 0b1_1110, 0b1_1111,
        0b1_10011, 0b1_10100, 0b1_00111, 0b1_01000, 0b1_001000, 0b1_000011, 0b1_110100, 0b1_110101,
        0b1_101010, 0b1_101011, 0b1_0100111, 0b1_0001100, 0b1_0001000, 0b1_0010111, 0b1_0000011,
        0b1_0000100, 0b1_0101000, 0b1_0101011, 0b1_0010011, 0b1_0100100, 0b1_0011000, 0b1_00000010,
        0b1_00000011, 0b1_00011010, 0b1_00011011, 0b1_00010010, 0b1_00010011, 0b1_00010100,
        0b1_00010101, 0b1_00010110, 0b1_00010111, 0b1_00101000, 0b1_00101001, 0b1_00101010,
        0b1_00101011, 0b1_00101100, 0b1_00101101, 0b1_00000100, 0b1_00000101, 0b1_00001010,
        0b1_00001011, 0b1_01010010, 0b1_01010011, 0b1_01010100, 0b1_01010101, 0b1_00100100,
        0b1_00100101, 0b1_01011000, 0b1_01011001, 0b1_01011010, 0b1_01011011, 0b1_01001010,
        0b1_01001011, 0b1_00110010, 0b1_00110011, 0b1_00110100, 0b1_11011, 0b1_10010, 0b1_010111,
        0b1_0110111, 0b1_00110110, 0b1_00110111, 0b1_01100100, 0b1_01100101, 0b1_01101000,
        0b1_01100111, 0b1_011001100, 0b1_011001101, 0b1_011010010, 0b1_011010011, 0b1_011010100,
        0b1_011010101, 0b1_011010110, 0b1_011010111, 0b1_011011000, 0b1_011011001, 0b1_011011010,
        0b1_011011011, 0b1_010011000, 0b1_010011001, 0b1_010011010, 0b1_011000, 0b1_010011011,
    };

    /** As the white ones. */
    private static final int[] BLACK_RUNS = {
        0b1_0000110111, 0b1_010, 0b1_11, 0b1_10, 0b1_011, 0b1_0011, 0b1_0010, 0b1_00011, 0b1_000101,
        0b1_000100, 0b1_0000100, 0b1_0000101, 0b1_0000111, 0b1_00000100, 0b1_00000111,
        0b1_000011000, 0b1_0000010111, 0b1_0000011000, 0b1_0000001000, 0b1_00001100111,
        0b1_00001101000, 0b1_00001101100, 0b1_00000110111, 0b1_00000101000, 0b1_00000010111,
        0b1_00000011000, 0b1_000011001010, 0b1_000011001011, 0b1_000011001100, 0b1_000011001101,
        0b1_000001101000, 0b1_000001101001, 0b1_000001101010, 0b1_000001101011, 0b1_000011010010,
        0b1_000011010011, 0b1_000011010100, 0b1_000011010101, 0b1_000011010110, 0b1_000011010111,
        0b1_000001101100, 0b1_000001101101, 0b1_000011011010, 0b1_000011011011, 0b1_000001010100,
        0b1_000001010101, 0b1_000001010110, 0b1_000001010111, 0b1_000001100100, 0b1_000001100101,
        0b1_000001010010, 0b1_000001010011, 0b1_000000100100, 0b1_000000110111, 0b1_000000111000,
        0b1_000000100111, 0b1_000000101000, 0b1_000001011000, 0b1_000001011001, 0b1_000000101011,
        0b1_000000101100, 0b1_000001011010, 0b1_000001100110, 0b1_000001100111, 0b1_0000001111,
        0b1_000011001000, 0b1_000011001001, 0b1_000001011011, 0b1_000000110011, 0b1_000000110100,
        0b1_000000110101, 0b1_0000001101100, 0b1_0000001101101, 0b1_0000001001010,
        0b1_0000001001011, 0b1_0000001001100, 0b1_0000001001101, 0b1_0000001110010,
        0b1_0000001110011, 0b1_0000001110100, 0b1_0000001110101, 0b1_0000001110110,
        0b1_0000001110111, 0b1_0000001010010, 0b1_0000001010011, 0b1_0000001010100,
        0b1_0000001010101, 0b1_0000001011010, 0b1_0000001011011, 0b1_0000001100100,
        0b1_0000001100101,
    };

    /** Runs of 1792, 1856 and so on to 2560, of both colours. */
    private static final int[] LONG_RUNS = {
        0b1_00000001000, 0b1_00000001100, 0b1_00000001101, 0b1_000000010010, 0b1_000000010011,
        0b1_000000010100, 0b1_000000010101, 0b1_000000010110, 0b1_000000010111, 0b1_000000011100,
        0b1_000000011101, 0b1_000000011110, 0b1_000000011111,
    };

    private final int kind;
    private final int width;
    private final Samples made;
    private final Lists rows;
    private final Bits written;
    private final Bits fed;
    private final Writer writer;
    private final Reader reader;
    private int fillBits;
    private boolean repeatAbove;
    private boolean lowestFirst;

    public FaxRows(int kind, int width) {
        this.kind = Math.max(KIND_ONE, Math.min(KIND_UNMARKED, kind));
        this.width = Math.max(1, Math.min(MOST_WIDTH, width));
        made = new Samples(this.width);
        rows = new Lists();
        written = new Bits();
        fed = new Bits();
        writer = new Writer(rows, this.width, written);
        reader = new Reader(this.width, fed);
    }

    public boolean put(int x, boolean on) {
        if (x < 0 || x >= width) {
            return false;
        }
        made.set(x, on);
        return true;
    }

    public boolean endRow() {
        if (rows.count() >= MOST_ROWS) {
            return false;
        }
        made.addChangesTo(rows);
        rows.close();
        made.whiten();
        return true;
    }

    public int encode() {
        written.removeAll();
        if (kind == KIND_UNMARKED) {
            writer.writeUnmarked();
        } else {
            writer.writeMarked(kind == KIND_MIXED, fillBits);
        }
        written.fillLastByte();
        return written.byteCount();
    }

    public int byteAt(int i) {
        return written.byteOf(i);
    }

    public boolean feed(int b) {
        if (fed.byteCount() >= MOST_FED) {
            return false;
        }
        fed.addByte(b);
        return true;
    }

    public int decode() {
        Bits source = fed.byteCount() > 0 ? fed : written;
        if (source.byteCount() == 0) {
            return NOTHING;
        }
        reader.begin(source);
        int answer = kind == KIND_UNMARKED
                ? reader.readUnmarked()
                : reader.readMarked(kind == KIND_MIXED, repeatAbove);
        if (answer < 0) {
            reader.forget();
        }
        return answer;
    }

    public boolean at(int x, int y) throws ArrayIndexOutOfBoundsException {
        if (!reader.hasRow(y)) {
            return false;
        }
        if (x < 0 || x >= width) {
            throw new ArrayIndexOutOfBoundsException("the row has no such sample");
        }
        return reader.isBlack(x, y);
    }

    public boolean damaged(int row) {
        return reader.wasDamaged(row);
    }

    public int changes(int row, int k) {
        return reader.changeOf(row, k);
    }

    public int mode(int row, int k) {
        return reader.modeOf(row, k);
    }

    public boolean fill(int bits) {
        if (bits < 0 || bits > MOST_FILL) {
            return false;
        }
        fillBits = bits;
        return true;
    }

    public boolean repair(int rule) {
        if (rule != 0 && rule != 1) {
            return false;
        }
        repeatAbove = rule == 1;
        return true;
    }

    public int order(boolean lowFirst) {
        if (lowestFirst == lowFirst) {
            return 0;
        }
        lowestFirst = lowFirst;
        written.setLowestFirst(lowFirst);
        fed.setLowestFirst(lowFirst);
        return 1;
    }

    public void clear() {
        made.whiten();
        rows.removeAll();
        written.removeAll();
        fed.removeAll();
        reader.forget();
    }

    /** The 1 that stands before a code's own bits. */
    private static int topBit(int code) {
        int bit = 1 << LONGEST_CODE;
        while (bit > 1 && bit > code) {
            bit >>= 1;
        }
        return bit;
    }

    /** The row that is made, 32 samples to a word: a wide white row is soon gone through. */
    private static final class Samples {
        private final int width;
        private final int[] words;

        /** The width is 1 or more. */
        Samples(int width) {
            this.width = width;
            words = new int[(width + 31) >> 5];
        }

        void set(int x, boolean on) {
            int word = x >> 5;
            if (word < 0 || word >= words.length) {
                return;
            }
            int bit = 1 << (x & 31);
            words[word] = on ? words[word] | bit : words[word] & ~bit;
        }

        void whiten() {
            Arrays.fill(words, 0);
        }

        void addChangesTo(Lists lists) {
            int before = 0;
            for (int i = 0; i < words.length; i++) {
                int changed = words[i] ^ (words[i] << 1 | before);
                if (changed != 0) {
                    addPlaces(changed, i << 5, lists);
                }
                before = words[i] >>> 31;
            }
        }

        /** A black last sample has a change behind it in its word, which is none of the row's. */
        private void addPlaces(int changed, int start, Lists lists) {
            for (int i = 0; i < 32 && start + i < width; i++) {
                if ((changed >> i & 1) == 1) {
                    lists.append(start + i);
                }
            }
        }
    }

    /**
     * Lists of numbers, one behind the other in one array that is used again: the closed ones, and
     * behind them an open one that grows at its end.
     */
    private static final class Lists {
        /** One more than the rows that are kept, as the row too many is read before it is known. */
        private static final int MOST = MOST_ROWS + 1;

        /** List i stands from starts[i] up to starts[i + 1]. */
        private final int[] starts = new int[MOST + 2];
        private int[] items = new int[32];
        private int closed;

        void removeAll() {
            closed = 0;
            starts[1] = 0;
        }

        int count() {
            return closed;
        }

        boolean has(int list) {
            return list >= 0 && list < closed;
        }

        /** Of a closed list, or of the open one, whose number is count(). */
        int length(int list) {
            return list >= 0 && list <= closed ? starts[list + 1] - starts[list] : 0;
        }

        /** Item k of a list, also of the open one; what is told for none if there is no such. */
        int item(int list, int k, int none) {
            if (list < 0 || list > closed || k < 0 || k >= starts[list + 1] - starts[list]) {
                return none;
            }
            return items[starts[list] + k];
        }

        void append(int item) {
            int end = starts[closed + 1];
            if (end >= items.length) {
                items = Arrays.copyOf(items, 2 * end);
            }
            items[end] = item;
            starts[closed + 1] = end + 1;
        }

        /** Of the open list. */
        int last() {
            return item(closed, starts[closed + 1] - starts[closed] - 1, NONE);
        }

        void dropLast() {
            if (length(closed) > 0) {
                starts[closed + 1]--;
            }
        }

        void close() {
            if (closed < MOST) {
                closed++;
                emptyOpen();
            }
        }

        void emptyOpen() {
            starts[closed + 1] = starts[closed];
        }

        void appendAll(int list) {
            int length = length(list);
            for (int k = 0; k < length; k++) {
                append(item(list, k, NONE));
            }
        }
    }

    /** Bits one behind the other in bytes, and where reading stands in them. */
    private static final class Bits {
        /** All bytes behind the bits are 0, so that zeros are added by counting them. */
        private byte[] bytes = new byte[64];
        private int count;
        private int place;
        /** By which a bit's number in its byte gives its shift: 7 from the highest on, else 0. */
        private int turn = 7;

        void setLowestFirst(boolean lowestFirst) {
            turn = lowestFirst ? 0 : 7;
        }

        void removeAll() {
            Arrays.fill(bytes, 0, byteCount(), (byte) 0);
            count = 0;
            place = 0;
        }

        int count() {
            return count;
        }

        int byteCount() {
            return (count + 7) >> 3;
        }

        int byteOf(int i) {
            return i >= 0 && i < byteCount() ? bytes[i] & 255 : NONE;
        }

        void addByte(int b) {
            makeRoomFor(8);
            bytes[count >> 3] = (byte) b;
            count += 8;
        }

        void addZeros(int zeros) {
            makeRoomFor(zeros);
            count += zeros;
        }

        void addCode(int code) {
            makeRoomFor(LONGEST_CODE);
            for (int bit = topBit(code) >> 1; bit > 0; bit >>= 1) {
                if ((code & bit) != 0) {
                    bytes[count >> 3] |= 1 << (count & 7 ^ turn);
                }
                count++;
            }
        }

        void fillLastByte() {
            count = 8 * byteCount();
        }

        void beginReading() {
            place = 0;
        }

        int left() {
            return count - place;
        }

        /** Of the bit that is so many behind the place of reading. */
        boolean isOne(int ahead) {
            int i = place + ahead;
            return i >= 0 && i < count && (bytes[i >> 3] >> (i & 7 ^ turn) & 1) == 1;
        }

        void skip(int more) {
            place += more;
        }

        boolean isAtMark() {
            int zeros = zerosAhead(0);
            return zeros < left() && zeros >= MARK_ZEROS;
        }

        /** Goes behind the next mark, however far it is; false if there is none. */
        boolean skipToMark() {
            int ahead = 0;
            int zeros = zerosAhead(ahead);
            while (ahead + zeros < left() && zeros < MARK_ZEROS) {
                ahead += zeros + 1;
                zeros = zerosAhead(ahead);
            }
            if (ahead + zeros >= left()) {
                return false;
            }
            place += ahead + zeros + 1;
            return true;
        }

        /** How many bits of 0 stand in a row, so many behind the place of reading. */
        private int zerosAhead(int ahead) {
            int start = place + ahead;
            int i = start;
            while (i < count && !isOne(i - place)) {
                i++;
                // Long fill is mostly whole bytes of 0.
                while (i < count && (i & 7) == 0 && bytes[i >> 3] == 0) {
                    i += 8;
                }
            }
            return Math.min(i, count) - start;
        }

        private void makeRoomFor(int more) {
            int needed = (count + more + 7) >> 3;
            if (needed > bytes.length) {
                bytes = Arrays.copyOf(bytes, Math.max(needed, 2 * bytes.length));
            }
        }
    }

    /** How far a row in two dimensions is told, against the row above it. */
    private static final class Told {
        private final Lists rows;
        private final int width;
        private int above;
        /** The number of the first change above that is behind a0. */
        private int next;
        private int a0;
        private boolean black;

        Told(Lists rows, int width) {
            this.rows = rows;
            this.width = width;
        }

        /** Above the first row there is none, which is as good as a white one. */
        void begin(int row) {
            above = row - 1;
            next = 0;
            a0 = -1;
            black = false;
        }

        boolean isWhole() {
            return a0 >= width;
        }

        int a0() {
            return a0;
        }

        boolean isBlack() {
            return black;
        }

        /** Where the next run begins: a0, but for a row of which nothing is told yet. */
        int runStart() {
            return Math.max(a0, 0);
        }

        int b1() {
            return rows.item(above, numberOfB1(), width);
        }

        int b2() {
            return rows.item(above, numberOfB1() + 1, width);
        }

        void moveTo(int x) {
            a0 = x;
            int length = rows.length(above);
            while (next < length && rows.item(above, next, width) <= a0) {
                next++;
            }
        }

        void turnAt(int x) {
            moveTo(x);
            black = !black;
        }

        private int numberOfB1() {
            boolean nextIsToBlack = (next & 1) == 0;
            return nextIsToBlack != black ? next : next + 1;
        }
    }

    /** Writes the rows by their codes. */
    private static final class Writer {
        private static final int END_MARKS = 6;
        private static final int UNMARKED_END_MARKS = 2;
        private static final int ONE_DIMENSION_EVERY = 4;
        private static final int LONGEST_RUN = 2560;

        private final Lists rows;
        private final int width;
        private final Bits out;
        private final Told told;

        Writer(Lists rows, int width, Bits out) {
            this.rows = rows;
            this.width = width;
            this.out = out;
            told = new Told(rows, width);
        }

        void writeUnmarked() {
            for (int row = 0; row < rows.count(); row++) {
                writeModes(row);
            }
            for (int i = 0; i < UNMARKED_END_MARKS; i++) {
                out.addCode(MARK);
            }
        }

        void writeMarked(boolean mixed, int fillBits) {
            for (int row = 0; row < rows.count(); row++) {
                boolean oneDimension = !mixed || row % ONE_DIMENSION_EVERY == 0;
                writeMark(mixed, oneDimension);
                int start = out.count();
                if (oneDimension) {
                    writeRuns(row);
                } else {
                    writeModes(row);
                }
                out.addZeros(Math.max(0, fillBits - (out.count() - start)));
            }
            for (int i = 0; i < END_MARKS; i++) {
                writeMark(mixed, true);
            }
        }

        private void writeMark(boolean mixed, boolean oneDimension) {
            out.addCode(MARK);
            if (mixed) {
                out.addCode(oneDimension ? BIT_1 : BIT_0);
            }
        }

        private void writeRuns(int row) {
            int runs = rows.length(row) + 1;
            int start = 0;
            for (int k = 0; k < runs; k++) {
                int end = rows.item(row, k, width);
                writeRun(end - start, k % 2 == 1);
                start = end;
            }
        }

        private void writeModes(int row) {
            told.begin(row);
            int k = 0;
            // Each mode goes on by a sample at least, from just before the row to its end.
            for (int i = 0; i <= width && !told.isWhole(); i++) {
                int a1 = rows.item(row, k, width);
                int right = a1 - told.b1();
                if (told.b2() < a1) {
                    out.addCode(MODES[PASS]);
                    told.moveTo(told.b2());
                } else if (right >= -3 && right <= 3) {
                    out.addCode(MODES[VERTICAL + right]);
                    told.turnAt(a1);
                    k++;
                } else {
                    int a2 = rows.item(row, k + 1, width);
                    out.addCode(MODES[HORIZONTAL]);
                    writeRun(a1 - told.runStart(), told.isBlack());
                    writeRun(a2 - a1, !told.isBlack());
                    told.moveTo(a2);
                    k += 2;
                }
            }
        }

        private void writeRun(int length, boolean black) {
            int left = length;
            while (left >= LONGEST_RUN) {
                out.addCode(runCode(LONGEST_RUN / 64 + 63, black));
                left -= LONGEST_RUN;
            }
            if (left >= 64) {
                out.addCode(runCode(left / 64 + 63, black));
            }
            out.addCode(runCode(left % 64, black));
        }

        /** By the numbers in the tables, where the long runs come behind the colour's own. */
        private int runCode(int number, boolean black) {
            int[] codes = black ? BLACK_RUNS : WHITE_RUNS;
            int numberOfLong = number - codes.length;
            if (number >= 0 && numberOfLong < 0) {
                return codes[number];
            }
            return numberOfLong >= 0 && numberOfLong < LONG_RUNS.length
                    ? LONG_RUNS[numberOfLong]
                    : NO_CODE;
        }
    }

    /** Codes by their bits: a node has two branches, each to a node, a code's number or none. */
    private static final class CodeTree {
        private static final int NO_BRANCH = 0;

        /** Those of node n at 2n and 2n + 1. A code's number stands there as -1 less it. */
        private int[] branches = new int[64];
        private int nodes = 1;

        /** The codes get the numbers from the first one on. */
        void addAll(int[] codes, int first) {
            for (int i = 0; i < codes.length; i++) {
                add(codes[i], first + i);
            }
        }

        private void add(int code, int number) {
            int node = 0;
            for (int bit = topBit(code) >> 1; bit > 1; bit >>= 1) {
                node = nodeBelow(node, (code & bit) != 0);
            }
            setBranch(node, (code & 1) != 0, -1 - number);
        }

        /** No code begins another: a branch on the way to one leads to a node or to none. */
        private int nodeBelow(int node, boolean one) {
            int found = branch(node, one);
            if (found != NO_BRANCH) {
                return found;
            }
            if (2 * nodes + 1 >= branches.length) {
                branches = Arrays.copyOf(branches, 2 * branches.length);
            }
            setBranch(node, one, nodes);
            nodes++;
            return nodes - 1;
        }

        private int branch(int node, boolean one) {
            int i = 2 * node + (one ? 1 : 0);
            return i >= 0 && i < branches.length ? branches[i] : NO_BRANCH;
        }

        private void setBranch(int node, boolean one, int target) {
            int i = 2 * node + (one ? 1 : 0);
            if (i >= 0 && i < branches.length) {
                branches[i] = target;
            }
        }

        /** The number of the code that comes next; NONE if none fits, and the place stays. */
        int read(Bits in) {
            int node = 0;
            for (int ahead = 0; ahead < in.left(); ahead++) {
                int found = branch(node, in.isOne(ahead));
                if (found == NO_BRANCH) {
                    return NONE;
                }
                if (found < 0) {
                    in.skip(ahead + 1);
                    return -1 - found;
                }
                node = found;
            }
            return NONE;
        }
    }

    /** Reads rows by their codes, and keeps what was read. */
    private static final class Reader {
        private static final int WHOLE = 0;
        private static final int DAMAGED = 1;
        private static final int EXTENDED = 2;

        private final int width;
        private final Lists rows = new Lists();
        private final Lists modes = new Lists();
        private final boolean[] damages = new boolean[MOST_ROWS + 1];
        private final CodeTree whiteRuns = new CodeTree();
        private final CodeTree blackRuns = new CodeTree();
        private final CodeTree modeCodes = new CodeTree();
        private final Told told;
        private Bits in;

        Reader(int width, Bits source) {
            this.width = width;
            whiteRuns.addAll(WHITE_RUNS, 0);
            whiteRuns.addAll(LONG_RUNS, WHITE_RUNS.length);
            blackRuns.addAll(BLACK_RUNS, 0);
            blackRuns.addAll(LONG_RUNS, BLACK_RUNS.length);
            modeCodes.addAll(MODES, 0);
            in = source;
            told = new Told(rows, width);
        }

        void begin(Bits source) {
            forget();
            in = source;
            in.beginReading();
        }

        void forget() {
            rows.removeAll();
            modes.removeAll();
        }

        boolean hasRow(int row) {
            return rows.has(row);
        }

        /** The row has a sample x. */
        boolean isBlack(int x, int row) {
            int length = rows.length(row);
            int k = 0;
            while (k < length && rows.item(row, k, width) <= x) {
                k++;
            }
            return k % 2 == 1;
        }

        boolean wasDamaged(int row) {
            return rows.has(row) && row < damages.length && damages[row];
        }

        int changeOf(int row, int k) {
            return rows.has(row) ? rows.item(row, k, NONE) : NONE;
        }

        int modeOf(int row, int k) {
            return modes.has(row) ? modes.item(row, k, NONE) : NONE;
        }

        /** How many rows, or why there are none. */
        int readMarked(boolean mixed, boolean repeatAbove) {
            for (int row = 0; row <= MOST_ROWS; row++) {
                if (!in.skipToMark() || mixed && in.left() <= 0) {
                    return row;
                }
                boolean oneDimension = !mixed || in.isOne(0);
                in.skip(mixed ? 1 : 0);
                if (in.isAtMark()) {
                    return row;
                }
                int state = oneDimension ? readRuns() : readModes();
                if (state == EXTENDED) {
                    return EXTENSION_MET;
                }
                closeRow(state == DAMAGED, repeatAbove);
            }
            return TOO_MANY_ROWS;
        }

        /** The marks at the end need no look: they fit no mode, and end the rows as damage does. */
        int readUnmarked() {
            for (int row = 0; row <= MOST_ROWS; row++) {
                int state = readModes();
                if (state == EXTENDED) {
                    return EXTENSION_MET;
                }
                if (state == DAMAGED) {
                    return row;
                }
                closeRow(false, false);
            }
            return TOO_MANY_ROWS;
        }

        private void closeRow(boolean damaged, boolean repeatAbove) {
            int row = rows.count();
            if (damaged) {
                rows.emptyOpen();
                modes.emptyOpen();
                if (repeatAbove) {
                    rows.appendAll(row - 1);
                }
            }
            if (row < damages.length) {
                damages[row] = damaged;
            }
            rows.close();
            modes.close();
        }

        private int readRuns() {
            int x = 0;
            boolean black = false;
            // A run takes a bit at least, also one of no samples.
            for (int most = in.left(); most > 0 && x < width; most--) {
                int run = readRun(black);
                if (run == NONE || run > width - x) {
                    return DAMAGED;
                }
                x += run;
                turnAt(x);
                black = !black;
            }
            return x == width ? WHOLE : DAMAGED;
        }

        private int readModes() {
            told.begin(rows.count());
            // A mode takes a bit at least, also one that tells no samples.
            for (int most = in.left(); most > 0 && !told.isWhole(); most--) {
                int mode = modeCodes.read(in);
                if (mode == EXTENSION) {
                    return EXTENDED;
                }
                if (mode == NONE || mode == HORIZONTAL && !readHorizontal()
                        || mode > HORIZONTAL && !turnBesideB1(mode - VERTICAL)) {
                    return DAMAGED;
                }
                if (mode == PASS) {
                    told.moveTo(told.b2());
                }
                if (modes.length(modes.count()) < MOST_MODES) {
                    modes.append(mode);
                }
            }
            return told.isWhole() ? WHOLE : DAMAGED;
        }

        private boolean turnBesideB1(int right) {
            int a1 = told.b1() + right;
            if (a1 > width || a1 <= told.a0()) {
                return false;
            }
            turnAt(a1);
            told.turnAt(a1);
            return true;
        }

        private boolean readHorizontal() {
            int x = told.runStart();
            for (int i = 0; i < 2; i++) {
                int run = readRun(told.isBlack() == (i == 0));
                if (run == NONE || run > width - x) {
                    return false;
                }
                x += run;
                turnAt(x);
            }
            told.moveTo(x);
            return true;
        }

        /** A run of no samples turns twice at one place, where there is no change then. */
        private void turnAt(int x) {
            if (rows.last() == x) {
                rows.dropLast();
            } else if (x < width) {
                rows.append(x);
            }
        }

        private int readRun(boolean black) {
            CodeTree codes = black ? blackRuns : whiteRuns;
            int run = 0;
            for (int most = in.left(); most > 0; most--) {
                int number = codes.read(in);
                if (number == NONE) {
                    return NONE;
                }
                if (number < 64) {
                    return run + number;
                }
                run += (number - 63) * 64;
            }
            return NONE;
        }
    }
}
