/** Promises 19 to 22: white and weight. */
public final class WhiteAndWeightTest {
    private static final Check check = new Check();
    private static PosterSheet p;

    public static void main(String[] args) {
        whiteOfAnEmptySheet();
        whiteBesideItems();
        whiteParts();
        whiteOfNone();
        centre();
        centreByNumber();
        all();
        pairs();
        sorted();
        check.end();
    }

    private static void whites(int cells, int block, int place, int wide, int parts) {
        check.asks("white(0)", () -> p.white(0), cells);
        check.asks("white(1)", () -> p.white(1), block);
        check.asks("white(2)", () -> p.white(2), place);
        check.asks("white(3)", () -> p.white(3), wide);
        check.asks("white(4)", () -> p.white(4), parts);
        float share = (float) cells / (float) (p.told(5) * p.told(6));
        check.asks("white(5)", () -> p.white(5), Float.floatToIntBits(share));
    }

    private static void whiteOfAnEmptySheet() {
        p = check.begin("promise 19");
        whites(144, 144, 0, 12, 1);
        p.sheet(6, 16);
        whites(96, 96, 0, 6, 1);
        p.sheet(16, 16);
        whites(256, 256, 0, 16, 1);
        check.refused("white(-1)", () -> p.white(-1), -2);
        check.refused("white(6)", () -> p.white(6), -2);
    }

    private static void whiteBesideItems() {
        p = check.begin("promise 19, beside ITEMS");
        p.sets(0, 0);
        p.item(0, 1, 1, 1);
        p.lays(0, 0, 0);
        // 12 by 8 below, 8 by 12 to the right: the place of the latter, 4, 0, comes first.
        whites(128, 96, 4, 8, 1);
        p.lays(0, 8, 8);
        // 12 by 8 above and 8 by 12 to the left are at one place: the widest.
        whites(128, 96, 0, 12, 1);
        p.lays(0, 4, 4);
        whites(128, 48, 0, 12, 1);
        p.sheet(6, 6);
        // It sticks out: four CELLS of it are on THE SHEET.
        whites(32, 24, 0, 6, 1);
        p.item(0, 1, 1, 1);
        p.sets(2, 60);
        p.sheet(16, 16);
        p.swaps(0, 1);
        p.lays(0, 10, 10);
        // The four rows above and the four columns to the left: at one place, the widest.
        whites(256 - 72, 64, 0, 16, 1);
        p.off(1);
        // The rows above and the columns to the left of what is left.
        whites(256 - 36, 160, 0, 16, 1);
        p.lays(0, 0, 0);
        // 10 by 16 to the right begins at 6, 0, 16 by 10 below at 0, 6.
        whites(256 - 36, 160, 6, 10, 1);
    }

    private static void whiteParts() {
        p = check.begin("promise 19, PARTS");
        p.sets(0, 0);
        p.sheet(6, 6);
        p.sets(2, 20);
        for (int k = 0; k < 3; k++) {
            p.item(0, 1, 1, 1);
        }
        p.lays(0, 0, 2);
        p.lays(1, 2, 2);
        whites(28, 12, 0, 6, 1);
        p.becomes(1, 2, 2);
        whites(24, 12, 0, 6, 2);
        p.becomes(1, 2, 1);
        p.lays(2, 4, 4);
        // Above, with the CELLS at 4, 2 to 5, 3; and below to the left: corner to corner is not side by side.
        whites(24, 12, 0, 6, 2);
        p.sheet(16, 6);
        whites(84, 60, 6, 10, 2);
    }

    private static void whiteOfNone() {
        p = check.begin("promise 19, none");
        p.sets(0, 0);
        p.sheet(8, 8);
        p.sets(2, 80);
        p.item(0, 1, 1, 1);
        p.lays(0, 0, 0);
        whites(0, 0, PosterSheet.NONE, PosterSheet.NONE, 0);
        p.sets(2, 75);
        whites(0, 0, PosterSheet.NONE, PosterSheet.NONE, 0);
        p.sets(2, 74);
        whites(15, 8, 7, 1, 1);
        p.sheet(8, 7);
        whites(7, 7, 7, 1, 1);
        p.sheet(7, 8);
        whites(7, 7, 112, 7, 1);
    }

    private static void centres(double x, double y) {
        double across = x - p.told(5) / 2.0;
        double down = y - p.told(6) / 2.0;
        check.asks("centre(0)", () -> p.centre(0), Double.doubleToLongBits(x));
        check.asks("centre(1)", () -> p.centre(1), Double.doubleToLongBits(y));
        check.asks("centre(2)", () -> p.centre(2), Double.doubleToLongBits(across * across + down * down));
    }

    private static void centre() {
        p = check.begin("promise 20");
        centres(6.0, 6.0);
        p.sheet(7, 10);
        p.item(0, 1, 1, 1);
        centres(3.5, 5.0);
        p.lays(0, 1, 2);
        centres(3.0, 4.0);
        p.item(0, 5, 1, 1);
        p.lays(1, 5, 8);
        centres((96 * 3.0 + 2 * 5.5) / 98.0, (96 * 4.0 + 2 * 8.5) / 98.0);
        check.refused("centre(-1)", () -> p.centre(-1), -2);
        check.refused("centre(3)", () -> p.centre(3), -2);
        check.refused("centre(most)", () -> p.centre(Integer.MAX_VALUE), -2);
    }

    private static void centreByNumber() {
        p = check.begin("promise 20, five ITEMS");
        p.sheet(16, 15);
        p.sets(3, 13);
        int[][] items = {{1, 2, 3, 2}, {0, 4, 2, 1}, {1, 3, 1, 1}, {0, 6, 3, 3}, {0, 2, 1, 4}};
        for (int[] i : items) {
            p.item(i[0], i[1], i[2], i[3]);
        }
        p.packs();
        p.off(2);
        double weights = 0;
        double acrosses = 0;
        double downs = 0;
        for (int k = 0; k < 5; k++) {
            if (k != 2) {
                double weight = p.of(k, 8);
                weights += weight;
                acrosses += weight * (p.of(k, 4) + p.of(k, 6) / 2.0);
                downs += weight * (p.of(k, 5) + p.of(k, 7) / 2.0);
            }
        }
        centres(acrosses / weights, downs / weights);
    }

    private static void all() {
        p = check.begin("promise 21");
        p.item(0, 1, 1, 1);
        p.item(0, 2, 1, 1);
        p.item(0, 3, 1, 1);
        p.lays(0, 1, 1);
        p.lays(2, 5, 1);
        check.asks("all(0)", () -> p.all(0), 5);
        check.asks("all(1)", () -> p.all(1), 0);
        check.asks("all(2)", () -> p.all(2), 96 + 16);
        p.sets(1, 1);
        check.asks("all(1): both are too near", () -> p.all(1), 5);
        p.off(0);
        check.asks("all(0)", () -> p.all(0), 4);
        check.asks("all(1)", () -> p.all(1), 0);
        check.asks("all(2)", () -> p.all(2), 16);
        p.sets(0, 2);
        check.asks("all(1): in the MARGIN", () -> p.all(1), 4);
        check.refused("all(-1)", () -> p.all(-1), -2);
        check.refused("all(4)", () -> p.all(4), -2);
    }

    private static void pairs() {
        p = check.begin("promise 21, pairs");
        p.item(0, 1, 1, 1);
        p.item(0, 2, 2, 1);
        p.item(0, 2, 1, 1);
        p.item(0, 6, 1, 1);
        // 4 by 4, 5 by 3, 3 by 3, 1 by 1: each larger than those of greater RANKS.
        check.asks("all(3)", () -> p.all(3), 0);
        p.sets(3, 10);
        // 4 by 4, 8 by 4, 4 by 4, 4 by 4: as large is no larger; of like RANK none counts.
        check.asks("all(3)", () -> p.all(3), 1 + 1 + 1 + 1);
        p.becomes(3, 2, 2);
        check.asks("all(3)", () -> p.all(3), 5);
        p.becomes(0, 1, 2);
        check.asks("all(3)", () -> p.all(3), 3);
        p.becomes(3, 1, 1);
        check.asks("all(3): the lesser RANK comes later", () -> p.all(3), 1);
    }

    private static void sorted() {
        p = check.begin("promise 22");
        check.asks("sorted(0, 0) of none", () -> p.sorted(0, 0), PosterSheet.NONE);
        p.item(0, 3, 1, 1);
        p.item(1, 2, 1, 1);
        p.item(0, 1, 1, 1);
        p.item(0, 3, 1, 1);
        p.item(1, 1, 1, 1);
        p.item(0, 3, 2, 1);
        p.lays(3, 1, 1);
        int[] words = {2, 5, 0, 3, -1};
        for (int n = 0; n < words.length; n++) {
            int i = n;
            check.asks("sorted(0, " + i + ")", () -> p.sorted(0, i), words[i]);
        }
        check.asks("sorted(1, 0)", () -> p.sorted(1, 0), 4);
        check.asks("sorted(1, 1)", () -> p.sorted(1, 1), 1);
        check.asks("sorted(1, 2)", () -> p.sorted(1, 2), PosterSheet.NONE);
        check.asks("sorted(1, most)", () -> p.sorted(1, Integer.MAX_VALUE), PosterSheet.NONE);
        check.refused("sorted(-1, 0)", () -> p.sorted(-1, 0), -2);
        check.refused("sorted(2, 0)", () -> p.sorted(2, 0), -2);
        check.refused("sorted(0, -1)", () -> p.sorted(0, -1), -2);
        check.refused("sorted(0, least)", () -> p.sorted(0, Integer.MIN_VALUE), -2);
    }
}
