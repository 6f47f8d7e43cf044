import java.util.Random;

/**
 * Drawn calls with any arguments, by fixed seeds: none throws but at(), by its own throw, exactly
 * where the row is there and the sample is not; and what throws changes nothing.
 */
public final class FaxRowsAnyCalls {
    private static final int[] EDGES = {
        Integer.MIN_VALUE, Integer.MIN_VALUE + 1, -4001, -1, 0, 1, 2, 3, 23, 24, 25, 31, 32, 2000,
        2999, 3000, 3003, 3004, 4000, 4001, Integer.MAX_VALUE - 1, Integer.MAX_VALUE,
    };
    private static final int[] BYTES = {0, 0, 1, 16, 128, 255, 8, 24, 53, 77};

    private static int wrong = 0;

    private static void tell(String what) {
        wrong++;
        System.out.println(what);
    }

    private static int draw(Random random) {
        int way = random.nextInt(4);
        return way == 0 ? EDGES[random.nextInt(EDGES.length)]
                : way == 1 ? random.nextInt() : random.nextInt(40);
    }

    private static void look(FaxRows x, int width, int rows, Random random, String what) {
        int column = draw(random);
        int row = draw(random);
        boolean due = row >= 0 && row < rows && (column < 0 || column >= width);
        try {
            x.at(column, row);
            if (due) {
                tell(what + ": at " + column + " " + row + " does not throw");
            }
        } catch (ArrayIndexOutOfBoundsException e) {
            boolean own = e.getStackTrace()[0].getMethodName().equals("at")
                    && e.getMessage().equals("the row has no such sample");
            if (!due || !own) {
                tell(what + ": at " + column + " " + row + " throws " + e);
            }
        }
    }

    private static void oneRun(int seed) {
        Random random = new Random(seed);
        int width = random.nextInt(3) == 0 ? 3000 : 1 + random.nextInt(40);
        FaxRows x = new FaxRows(random.nextInt(3), width);
        int rows = 0;
        String what = "seed " + seed;
        for (int call = 0; call < 512; call++) {
            switch (random.nextInt(18)) {
                case 0:
                    rows = Math.max(0, x.decode());
                    break;
                case 1:
                    x.encode();
                    break;
                case 2:
                    x.endRow();
                    break;
                case 3:
                    x.fill(draw(random));
                    break;
                case 4:
                    x.repair(draw(random));
                    break;
                case 5:
                    x.order(random.nextBoolean());
                    break;
                case 6:
                    if (random.nextInt(12) == 0) {
                        x.clear();
                        rows = 0;
                    }
                    break;
                case 7:
                case 8:
                    if (seed % 2 == 0) {
                        x.feed(random.nextBoolean() ? draw(random) : BYTES[random.nextInt(10)]);
                    }
                    break;
                case 9:
                    x.byteAt(draw(random));
                    x.damaged(draw(random));
                    break;
                case 10:
                    x.changes(draw(random), draw(random));
                    break;
                case 11:
                    x.mode(draw(random), draw(random));
                    break;
                case 12:
                case 13:
                    look(x, width, rows, random, what);
                    break;
                default:
                    x.put(draw(random), random.nextBoolean());
                    break;
            }
        }
    }

    public static void main(String[] args) {
        for (int seed = 0; seed < 4000; seed++) {
            try {
                oneRun(seed);
            } catch (RuntimeException e) {
                tell("seed " + seed + " throws " + e);
            }
        }
        System.out.println(wrong == 0 ? "none throws but where due" : wrong + " calls are wrong");
        if (wrong != 0) {
            System.exit(1);
        }
    }
}
