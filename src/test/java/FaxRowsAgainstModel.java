import java.util.ArrayList;
import java.util.Arrays;
import java.util.HashMap;
import java.util.List;
import java.util.Map;
import java.util.Random;

/**
 * Drawn rows, fills, orders and damages, by fixed seeds: each answer of the class against that of
 * a second program, which holds bits as text and rows as samples and looks each thing up anew.
 */
public final class FaxRowsAgainstModel {
    private static final String WHITE =
            "00110101 000111 0111 1000 1011 1100 1110 1111 10011 10100 00111 01000 001000 "
            + "000011 110100 110101 101010 101011 0100111 0001100 0001000 0010111 0000011 "
            + "0000100 0101000 0101011 0010011 0100100 0011000 00000010 00000011 00011010 "
            + "00011011 00010010 00010011 00010100 00010101 00010110 00010111 00101000 "
            + "00101001 00101010 00101011 00101100 00101101 00000100 00000101 00001010 "
            + "00001011 01010010 01010011 01010100 01010101 00100100 00100101 01011000 "
            + "01011001 01011010 01011011 01001010 01001011 00110010 00110011 00110100 11011 "
            + "10010 010111 0110111 00110110 00110111 01100100 01100101 01101000 01100111 "
            + "011001100 011001101 011010010 011010011 011010100 011010101 011010110 011010111 "
            + "011011000 011011001 011011010 011011011 010011000 010011001 010011010 011000 "
            + "010011011 ";

    private static final String BLACK =
            "0000110111 010 11 10 011 0011 0010 00011 000101 000100 0000100 0000101 0000111 "
            + "00000100 00000111 000011000 0000010111 0000011000 0000001000 00001100111 "
            + "00001101000 00001101100 00000110111 00000101000 00000010111 00000011000 "
            + "000011001010 000011001011 000011001100 000011001101 000001101000 000001101001 "
            + "000001101010 000001101011 000011010010 000011010011 000011010100 000011010101 "
            + "000011010110 000011010111 000001101100 000001101101 000011011010 000011011011 "
            + "000001010100 000001010101 000001010110 000001010111 000001100100 000001100101 "
            + "000001010010 000001010011 000000100100 000000110111 000000111000 000000100111 "
            + "000000101000 000001011000 000001011001 000000101011 000000101100 000001011010 "
            + "000001100110 000001100111 0000001111 000011001000 000011001001 000001011011 "
            + "000000110011 000000110100 000000110101 0000001101100 0000001101101 "
            + "0000001001010 0000001001011 0000001001100 0000001001101 0000001110010 "
            + "0000001110011 0000001110100 0000001110101 0000001110110 0000001110111 "
            + "0000001010010 0000001010011 0000001010100 0000001010101 0000001011010 "
            + "0000001011011 0000001100100 0000001100101 ";

    private static final String BOTH =
            "00000001000 00000001100 00000001101 000000010010 000000010011 000000010100 "
            + "000000010101 000000010110 000000010111 000000011100 000000011101 000000011110 "
            + "000000011111 ";

    private static final String[] MODES = {
        "0001", "001", "0000010", "000010", "010", "1", "011", "000011", "0000011", "0000001",
    };
    private static final String MARK = "000000000001";

    private static int wrong = 0;
    private static int asked = 0;

    private static void due(String what, long got, long want) {
        asked++;
        if (got != want) {
            wrong++;
            if (wrong <= 20) {
                System.out.println(what + " answered " + got + ", due is " + want);
            }
        }
    }

    // The second program.

    private static final List<Map<Integer, String>> CODE_OF = new ArrayList<>();
    private static final List<Map<String, Integer>> RUN_OF = new ArrayList<>();

    private static void makeTables() {
        for (String text : new String[] {WHITE, BLACK}) {
            Map<Integer, String> codes = new HashMap<>();
            Map<String, Integer> runs = new HashMap<>();
            String[] all = (text + BOTH).trim().split(" ");
            for (int i = 0; i < all.length; i++) {
                int run = i < 64 ? i : (i - 63) * 64;
                codes.put(run, all[i]);
                runs.put(all[i], run);
            }
            CODE_OF.add(codes);
            RUN_OF.add(runs);
        }
    }

    private static boolean black(boolean[] row, int x) {
        return x >= 0 && row[x];
    }

    private static int changeFrom(boolean[] row, int x) {
        int place = Math.max(x, 0);
        while (place < row.length && black(row, place) == black(row, place - 1)) {
            place++;
        }
        return place;
    }

    /** The first change from x on to a colour. */
    private static int changeTo(boolean[] row, int x, boolean colour) {
        int place = changeFrom(row, x);
        while (place < row.length && row[place] != colour) {
            place = changeFrom(row, place + 1);
        }
        return place;
    }

    private static String run(int n, boolean colour) {
        Map<Integer, String> codes = CODE_OF.get(colour ? 1 : 0);
        StringBuilder text = new StringBuilder();
        for (; n >= 2560; n -= 2560) {
            text.append(codes.get(2560));
        }
        if (n >= 64) {
            text.append(codes.get(n - n % 64));
        }
        return text.append(codes.get(n % 64)).toString();
    }

    private static String runs(boolean[] row) {
        StringBuilder text = new StringBuilder();
        boolean colour = false;
        for (int x = 0; x < row.length; colour = !colour) {
            int end = changeTo(row, x, !colour);
            text.append(run(end - x, colour));
            x = end;
        }
        return text.toString();
    }

    private static String modes(boolean[] row, boolean[] above) {
        StringBuilder text = new StringBuilder();
        boolean colour = false;
        for (int a0 = -1; a0 < row.length; ) {
            int a1 = changeFrom(row, a0 + 1);
            int b1 = changeTo(above, a0 + 1, !colour);
            int b2 = b1 < row.length ? changeFrom(above, b1 + 1) : row.length;
            if (b2 < a1) {
                text.append(MODES[0]);
                a0 = b2;
            } else if (Math.abs(a1 - b1) <= 3) {
                text.append(MODES[5 + a1 - b1]);
                a0 = a1;
                colour = !colour;
            } else {
                int a2 = a1 < row.length ? changeFrom(row, a1 + 1) : row.length;
                text.append(MODES[1]).append(run(a1 - Math.max(a0, 0), colour));
                text.append(run(a2 - a1, !colour));
                a0 = a2;
            }
        }
        return text.toString();
    }

    private static String written(int kind, int width, List<boolean[]> rows, int fill) {
        StringBuilder text = new StringBuilder();
        boolean[] above = new boolean[width];
        for (int i = 0; i < rows.size(); i++) {
            boolean one = kind == 0 || kind == 1 && i % 4 == 0;
            text.append(kind == 2 ? "" : MARK).append(kind != 1 ? "" : one ? "1" : "0");
            String body = one ? runs(rows.get(i)) : modes(rows.get(i), above);
            text.append(body);
            for (int n = body.length(); kind != 2 && n < fill; n++) {
                text.append('0');
            }
            above = rows.get(i);
        }
        String end = MARK + (kind == 1 ? "1" : "");
        for (int i = 0; i < (kind == 2 ? 2 : 6); i++) {
            text.append(end);
        }
        while (text.length() % 8 != 0) {
            text.append('0');
        }
        return text.toString();
    }

    private static int[] bytes(String text, boolean lowFirst) {
        int[] bytes = new int[text.length() / 8];
        for (int i = 0; i < bytes.length; i++) {
            String eight = text.substring(8 * i, 8 * i + 8);
            String ordered = lowFirst ? new StringBuilder(eight).reverse().toString() : eight;
            bytes[i] = Integer.parseInt(ordered, 2);
        }
        return bytes;
    }

    private static String text(int[] bytes, boolean lowFirst) {
        StringBuilder text = new StringBuilder();
        for (int b : bytes) {
            StringBuilder eight = new StringBuilder(Integer.toBinaryString(256 + b).substring(1));
            text.append(lowFirst ? eight.reverse() : eight);
        }
        return text.toString();
    }

    private static final class Reading {
        final int width;
        final String text;
        final List<boolean[]> rows = new ArrayList<>();
        final List<Boolean> damaged = new ArrayList<>();
        final List<List<Integer>> modes = new ArrayList<>();
        int at = 0;
        int answer;
        boolean extension = false;
        boolean[] row;
        List<Integer> told;

        Reading(int kind, int width, String text, int rule) {
            this.width = width;
            this.text = text;
            answer = kind == 2 ? unmarked() : marked(kind, rule);
            if (answer < 0) {
                rows.clear();
            }
        }

        private boolean[] above() {
            return rows.isEmpty() ? new boolean[width] : rows.get(rows.size() - 1);
        }

        private int unmarked() {
            while (!text.startsWith(MARK + MARK, at) && at < text.length()) {
                boolean good = readModes();
                if (extension) {
                    return -2;
                }
                if (!good) {
                    break;
                }
                keep(row, false, told);
                if (rows.size() > 24) {
                    return -3;
                }
            }
            return rows.size();
        }

        private int marked(int kind, int rule) {
            while (true) {
                int mark = text.indexOf(MARK, at);
                if (mark < 0) {
                    return rows.size();
                }
                at = mark + 12;
                boolean one = true;
                if (kind == 1) {
                    if (at == text.length()) {
                        return rows.size();
                    }
                    one = text.charAt(at) == '1';
                    at++;
                }
                if (text.substring(at).matches("0*" + MARK + ".*")) {
                    return rows.size();
                }
                boolean good = one ? readRuns() : readModes();
                if (extension) {
                    return -2;
                }
                if (good) {
                    keep(row, false, one ? new ArrayList<>() : told);
                } else {
                    keep(rule == 1 ? above() : new boolean[width], true, new ArrayList<>());
                }
                if (rows.size() > 24) {
                    return -3;
                }
            }
        }

        private void keep(boolean[] samples, boolean isDamaged, List<Integer> itsModes) {
            rows.add(samples);
            damaged.add(isDamaged);
            modes.add(itsModes);
        }

        private int readCode(Map<String, Integer> codes) {
            for (int n = 1; n <= 13 && at + n <= text.length(); n++) {
                Integer found = codes.get(text.substring(at, at + n));
                if (found != null) {
                    at += n;
                    return found;
                }
            }
            return -1;
        }

        private int readRun(boolean colour) {
            int sum = 0;
            while (true) {
                int code = readCode(RUN_OF.get(colour ? 1 : 0));
                if (code < 0) {
                    return -1;
                }
                sum += code;
                if (code < 64) {
                    return sum;
                }
            }
        }

        /** Where a run from x ends; -1 if there is none or it goes beyond the row. */
        private int paintRun(int x, boolean colour) {
            int run = readRun(colour);
            if (run < 0 || x + run > width) {
                return -1;
            }
            paint(x, x + run, colour);
            return x + run;
        }

        private void paint(int from, int to, boolean colour) {
            for (int x = Math.max(from, 0); x < to; x++) {
                row[x] = colour;
            }
        }

        private boolean readRuns() {
            row = new boolean[width];
            boolean colour = false;
            for (int x = 0; x < width; colour = !colour) {
                x = paintRun(x, colour);
                if (x < 0) {
                    return false;
                }
            }
            return true;
        }

        private boolean readModes() {
            row = new boolean[width];
            told = new ArrayList<>();
            Map<String, Integer> codes = new HashMap<>();
            for (int i = 0; i < MODES.length; i++) {
                codes.put(MODES[i], i);
            }
            boolean colour = false;
            boolean[] above = above();
            for (int a0 = -1; a0 < width; ) {
                int mode = readCode(codes);
                extension = mode == 9;
                if (mode < 0 || mode == 9) {
                    return false;
                }
                told.add(mode);
                int b1 = changeTo(above, a0 + 1, !colour);
                int b2 = b1 < width ? changeFrom(above, b1 + 1) : width;
                if (mode == 0) {
                    paint(a0, b2, colour);
                    a0 = b2;
                } else if (mode == 1) {
                    int a1 = paintRun(Math.max(a0, 0), colour);
                    int a2 = a1 < 0 ? -1 : paintRun(a1, !colour);
                    if (a2 < 0) {
                        return false;
                    }
                    a0 = a2;
                } else {
                    int a1 = b1 + mode - 5;
                    if (a1 > width || a1 < 0 || a1 <= a0) {
                        return false;
                    }
                    paint(a0, a1, colour);
                    a0 = a1;
                    colour = !colour;
                }
            }
            return true;
        }
    }

    // What is drawn.

    private static boolean[] drawRow(Random random, boolean[] above) {
        boolean[] row = above.clone();
        int way = random.nextInt(6);
        if (way == 0) {
            row = new boolean[row.length];
        }
        for (int n = random.nextInt(way == 1 ? 40 : 6); n > 0; n--) {
            int from = random.nextInt(row.length);
            int length = random.nextInt(3) == 0 ? row.length : 1 + random.nextInt(8);
            boolean colour = random.nextBoolean();
            for (int x = from; x < Math.min(row.length, from + length); x++) {
                row[x] = colour;
            }
        }
        if (way == 2) {
            for (int x = 0; x < row.length; x++) {
                row[x] = random.nextBoolean();
            }
        }
        return row;
    }

    private static int drawWidth(Random random) {
        switch (random.nextInt(4)) {
            case 0:
                return 1 + random.nextInt(6);
            case 1:
                return 20 + random.nextInt(60);
            case 2:
                return 60 + random.nextInt(300);
            default:
                return 1 + random.nextInt(3000);
        }
    }

    private static String damage(Random random, String text) {
        StringBuilder hurt = new StringBuilder(text);
        for (int n = random.nextInt(6); n > 0 && hurt.length() > 20; n--) {
            int place = random.nextInt(hurt.length());
            switch (random.nextInt(4)) {
                case 0:
                    hurt.setCharAt(place, hurt.charAt(place) == '0' ? '1' : '0');
                    break;
                case 1:
                    hurt.deleteCharAt(place);
                    break;
                case 2:
                    hurt.insert(place, "0000000".substring(random.nextInt(7)));
                    break;
                default:
                    hurt.setLength(Math.max(place, hurt.length() - 40));
                    break;
            }
        }
        hurt.setLength(hurt.length() / 8 * 8);
        return hurt.toString();
    }

    /** Bits that are mostly codes, in no order that would make sense. */
    private static String drawCodes(Random random, int kind) {
        StringBuilder text = new StringBuilder(kind == 2 ? "" : MARK);
        String[] runs = (WHITE + BLACK + BOTH).trim().split(" ");
        int bits = random.nextInt(400);
        while (text.length() < bits) {
            switch (random.nextInt(kind == 0 ? 4 : 9)) {
                case 0:
                    text.append(MARK);
                    break;
                case 1:
                    text.append(random.nextBoolean() ? "1" : "0");
                    break;
                case 2:
                case 3:
                    text.append(runs[random.nextInt(random.nextInt(3) == 0 ? runs.length : 20)]);
                    break;
                case 4:
                    text.append(MODES[1]).append(run(0, false)).append(run(0, true));
                    break;
                case 5:
                    text.append("001").append(run(random.nextInt(5), random.nextBoolean()))
                            .append(run(random.nextInt(5), random.nextBoolean()));
                    break;
                default:
                    text.append(MODES[random.nextInt(random.nextInt(30) == 0 ? 10 : 9)]);
                    break;
            }
        }
        text.setLength(text.length() / 8 * 8);
        return text.length() == 0 ? "10101010" : text.toString();
    }

    private static void compareRead(String what, FaxRows x, Reading due) {
        due(what + " decode", x.decode(), due.answer);
        for (int y = 0; y < due.rows.size(); y++) {
            boolean[] row = due.rows.get(y);
            due(what + " damaged " + y, x.damaged(y) ? 1 : 0, due.damaged.get(y) ? 1 : 0);
            for (int i = 0; i < row.length; i++) {
                due(what + " at " + i + " " + y, x.at(i, y) ? 1 : 0, row[i] ? 1 : 0);
            }
            int k = 0;
            for (int p = changeFrom(row, 0); p < row.length; p = changeFrom(row, p + 1)) {
                due(what + " changes " + y + " " + k, x.changes(y, k), p);
                k++;
            }
            due(what + " changes end " + y, x.changes(y, k), FaxRows.NONE);
            List<Integer> modes = due.modes.get(y);
            for (int i = 0; i < modes.size(); i++) {
                due(what + " mode " + y + " " + i, x.mode(y, i), modes.get(i));
            }
            due(what + " mode end " + y, x.mode(y, modes.size()), FaxRows.NONE);
        }
        int none = due.rows.size();
        due(what + " no row", x.at(0, none) || x.damaged(none) ? 1 : 0, 0);
        due(what + " no change", x.changes(none, 0), FaxRows.NONE);
        due(what + " no mode", x.mode(none, 0), FaxRows.NONE);
    }

    private static void writtenAndRead(int seed) {
        Random random = new Random(seed);
        int kind = seed % 3;
        int width = drawWidth(random);
        FaxRows x = new FaxRows(kind, width);
        List<boolean[]> rows = new ArrayList<>();
        boolean[] row = new boolean[width];
        int count = random.nextInt(random.nextInt(4) == 0 ? 25 : 9);
        for (int i = 0; i < count; i++) {
            row = drawRow(random, row);
            rows.add(row);
            for (int p = 0; p < width; p++) {
                if (row[p]) {
                    x.put(p, true);
                }
            }
            x.endRow();
        }
        boolean lowFirst = random.nextBoolean();
        x.order(lowFirst);
        int fill = random.nextInt(3) == 0 ? random.nextInt(300) : 0;
        x.fill(fill);
        String text = written(kind, width, rows, fill);
        int[] bytes = bytes(text, lowFirst);
        String what = "seed " + seed;
        due(what + " encode", x.encode(), bytes.length);
        for (int i = 0; i < bytes.length; i++) {
            due(what + " byteAt " + i, x.byteAt(i), bytes[i]);
        }
        due(what + " byteAt end", x.byteAt(bytes.length), FaxRows.NONE);
        Reading reading = new Reading(kind, width, text, 0);
        compareRead(what, x, reading);
        due(what + " all rows", reading.rows.size(), rows.size());
        for (int i = 0; i < rows.size() && i < reading.rows.size(); i++) {
            boolean same = Arrays.equals(rows.get(i), reading.rows.get(i));
            due(what + " as made", same ? 1 : 0, 1);
        }
        x.order(!lowFirst);
        compareRead(what + " turned", x, new Reading(kind, width, text(bytes, !lowFirst), 0));
        readFed(what + " hurt", x, kind, width, damage(random, text), random);
    }

    private static void readFed(
            String what, FaxRows x, int kind, int width, String text, Random random) {
        if (text.isEmpty() || text.length() > 16000) {
            return;
        }
        boolean lowFirst = random.nextBoolean();
        x.order(lowFirst);
        int rule = random.nextInt(2);
        x.repair(rule);
        for (int b : bytes(text, lowFirst)) {
            x.feed(b);
        }
        compareRead(what, x, new Reading(kind, width, text, rule));
    }

    /** A row of one colour has one run of each length, and so each code. */
    private static void oneRun(int kind, int width, boolean colour) {
        FaxRows x = new FaxRows(kind, width);
        boolean[] row = new boolean[width];
        Arrays.fill(row, colour);
        for (int i = 0; i < width; i++) {
            x.put(i, colour);
        }
        x.endRow();
        String what = "run of " + width + (colour ? " black" : " white");
        String text = written(kind, width, List.of(row), 0);
        int[] bytes = bytes(text, false);
        due(what + " encode", x.encode(), bytes.length);
        for (int i = 0; i < bytes.length; i++) {
            due(what + " byteAt " + i, x.byteAt(i), bytes[i]);
        }
        due(what + " decode", x.decode(), 1);
        due(what + " damaged", x.damaged(0) ? 1 : 0, 0);
        due(what + " changes", x.changes(0, 0), colour ? 0 : FaxRows.NONE);
        due(what + " changes", x.changes(0, 1), FaxRows.NONE);
    }

    private static void readDrawn(int seed) {
        Random random = new Random(seed);
        int kind = seed % 3;
        int width = random.nextInt(3) == 0 ? drawWidth(random) : 1 + random.nextInt(24);
        FaxRows x = new FaxRows(kind, width);
        readFed("drawn " + seed, x, kind, width, drawCodes(random, kind), random);
    }

    public static void main(String[] args) {
        makeTables();
        for (int width = 1; width <= 3000; width++) {
            oneRun(0, width, false);
            oneRun(0, width, true);
            oneRun(2, width, true);
        }
        for (int seed = 0; seed < 1500; seed++) {
            writtenAndRead(seed);
        }
        for (int seed = 0; seed < 30000; seed++) {
            readDrawn(seed);
        }
        System.out.println(asked + " answers asked for, " + wrong + " wrong");
        if (wrong != 0) {
            System.exit(1);
        }
    }
}
