/**
 * The sentences of the document's first part (THE SHEET) that name a boundary case, each with a test of its
 * own, that begins with the sentence. RefusalsTest and RangesTest have more of what is refused.
 */
public final class SheetEdgesTest {
    private static final int NONE = PosterSheet.NONE;
    private static final int NO = PosterSheet.NO;
    private static final int FULL = PosterSheet.FULL;
    private static final Check check = new Check();
    private static PosterSheet p;

    public static void main(String[] args) {
        theSheet();
        margins();
        items();
        sides();
        sizesCut();
        sizesAtLeastOne();
        weights();
        lines();
        linesCut();
        onTheSheet();
        insideTheMargin();
        onLines();
        apartByTheGutter();
        apartFromThoseThatLie();
        placesInOrder();
        packing();
        packingOnWideAndHighSheets();
        packingWithoutPlace();
        lastItems();
        swapsAtTheEdges();
        atTheEdges();
        check.end();
    }

    private static PosterSheet begin(String sentence) {
        p = check.begin(sentence);
        return p;
    }

    private static void begin(String sentence, int w, int h, int margin, int big) {
        p = check.begin(sentence, w, h, margin, big);
    }

    // ---- 1 THE SHEET

    private static void theSheet() {
        begin("THE SHEET has W by H CELLS (6 .. 16 each; 12 by 12 at first)");
        check.due("white(0)", p.white(0), 144);
        check.changes("sheet(6, 6)", () -> p.sheet(6, 6), 1212);
        check.due("white(0)", p.white(0), 36);
        check.changes("sheet(16, 16)", () -> p.sheet(16, 16), 606);
        check.due("white(0)", p.white(0), 256);
        check.changes("sheet(16, 6)", () -> p.sheet(16, 6), 1616);
        check.due("white(0)", p.white(0), 96);
        check.changes("sheet(6, 16)", () -> p.sheet(6, 16), 1606);
        check.due("white(0)", p.white(0), 96);
        check.due("sheet(12, 12)", p.sheet(12, 12), 616);
    }

    private static void margins() {
        begin("MARGIN (0 .. 2; 1 at first)", 6, 6, 2, 20);
        check.items(1, 0, 1, 1, 1);
        check.asks("free(0, 3): 2 by 2 are left", () -> p.free(0, 3), 1);
        check.asks("free(0, 0)", () -> p.free(0, 0), 16 * 2 + 2);
        p.sets(2, 25);
        check.asks("free(0, 3): 3 by 3 are too many", () -> p.free(0, 3), 0);
        p.sets(0, 0);
        p.sets(2, 60);
        check.asks("free(0, 3): all of THE SHEET", () -> p.free(0, 3), 1);
        check.asks("free(0, 0)", () -> p.free(0, 0), 0);
        p.sets(2, 65);
        check.asks("free(0, 3): 7 by 7 are too many", () -> p.free(0, 3), 0);
    }

    private static void items() {
        begin("ITEMS 0 .. 7, as they come; item: FULL: 8");
        for (int k = 0; k < 8; k++) {
            check.due("told(4)", p.told(4), k);
            check.due("item(1, 6, 4, 1)", p.item(1, 6, 4, 1), k);
            check.due("of(" + k + ", 1)", p.of(k, 1), 6);
            check.place(k, NONE, NONE);
        }
        check.refused("a ninth", () -> p.item(1, 6, 4, 1), FULL);
        check.due("drops(0)", p.drops(0), 7);
        check.due("an eighth again", p.item(0, 1, 1, 4), 7);
        check.due("of(7, 0)", p.of(7, 0), 0);
        check.due("of(6, 0)", p.of(6, 0), 1);
        check.refused("a ninth again", () -> p.item(1, 6, 4, 1), FULL);
        check.due("back()", p.back(), 4);
        check.due("back()", p.back(), 3);
        check.due("told(4)", p.told(4), 8);
        check.refused("a ninth behind back()", () -> p.item(1, 6, 4, 1), FULL);
    }

    private static void sides() {
        int[] bigs = {10, 11, 40, 79, 80};
        int[] ratios = {10, 11, 15, 29, 30};
        for (int big : bigs) {
            for (int ratio : ratios) {
                begin("SIDE, BIG " + big + ", RATIO " + ratio);
                p.sets(2, big);
                p.sets(3, ratio);
                float first = (float) big / 10f;
                float step = (float) ratio / 10f;
                float[] due = {
                    first, first / step, first / step / step, first / step / step / step,
                    first / step / step / step / step, first / step / step / step / step / step,
                };
                for (int r = 1; r <= 6; r++) {
                    int rank = r;
                    check.asks("side(" + rank + ")", () -> p.side(rank), Float.floatToIntBits(due[rank - 1]));
                }
            }
        }
    }

    private static void sizesCut() {
        begin("HIGH: SIDE and a half as a float, cut");
        check.items(1, 0, 1, 1, 1);
        int[][] bigAndHigh = {{10, 1}, {14, 1}, {15, 2}, {24, 2}, {25, 3}, {35, 4}, {44, 4}, {45, 5}, {74, 7}, {75, 8}, {80, 8}};
        for (int[] b : bigAndHigh) {
            p.sets(2, b[0]);
            check.size(0, b[1], b[1]);
        }

        begin("WIDE: of words SIDE times a; and a half, cut");
        check.items(1, 0, 1, 2, 4);
        p.sets(2, 12);
        check.size(0, 2, 1);
        p.sets(2, 13);
        check.size(0, 3, 1);
        p.becomes(0, 2, 4);
        check.size(0, 5, 1);
        p.becomes(0, 2, 3);
        check.size(0, 4, 1);

        begin("WIDE: of a picture SIDE times a, that by b; and a half, cut");
        check.items(1, 1, 1, 3, 2);
        p.sets(2, 10);
        check.size(0, 2, 1);
        p.becomes(0, 3, 4);
        check.size(0, 1, 1);
        p.becomes(0, 2, 4);
        p.becomes(0, 3, 3);
        check.size(0, 1, 1);
        p.becomes(0, 3, 1);
        check.size(0, 4, 1);
        p.becomes(0, 0, 0);
        p.becomes(0, 3, 4);
        check.size(0, 4, 1);
    }

    private static void sizesAtLeastOne() {
        begin("HIGH .. 1 at least");
        p.sets(2, 10);
        p.sets(3, 20);
        check.items(1, 0, 2, 1, 1);
        check.size(0, 1, 1);
        p.becomes(0, 1, 3);
        check.size(0, 1, 1);
        p.becomes(0, 1, 6);
        p.sets(3, 30);
        check.size(0, 1, 1);
        check.due("of(0, 8)", p.of(0, 8), 1);

        begin("WIDE .. 1 at least");
        p.sets(2, 10);
        check.items(1, 1, 1, 1, 2);
        check.size(0, 1, 1);
        p.becomes(0, 3, 3);
        check.size(0, 1, 1);
        p.becomes(0, 3, 4);
        check.size(0, 1, 1);
        p.sets(2, 80);
        check.size(0, 2, 8);
        p.becomes(0, 1, 6);
        check.size(0, 1, 1);
    }

    private static void weights() {
        begin("WEIGHT: WIDE times HIGH times (7 less RANK)");
        p.sets(3, 10);
        check.items(1, 0, 1, 1, 1);
        for (int rank = 1; rank <= 6; rank++) {
            p.becomes(0, 1, rank);
            check.due("of(0, 8), RANK " + rank, p.of(0, 8), 16 * (7 - rank));
        }
        p.sets(2, 80);
        p.becomes(0, 2, 4);
        p.becomes(0, 1, 1);
        check.due("of(0, 8), the greatest", p.of(0, 8), 32 * 8 * 6);
    }

    private static void lines() {
        begin("LINES, if COLUMNS is above 0: LINE k (0 .. COLUMNS less 1)");
        for (int columns = 0; columns <= 6; columns++) {
            p.sets(4, columns);
            for (int k = 0; k < columns; k++) {
                check.due("line(" + k + ") of " + columns, p.line(k), 1 + k * 10 / columns);
            }
            int next = columns;
            check.asks("line(" + next + ") of " + columns, () -> p.line(next), NONE);
            check.asks("line(" + (next + 1) + ")", () -> p.line(next + 1), NONE);
            check.asks("line(most)", () -> p.line(Integer.MAX_VALUE), NONE);
        }
        p.sets(4, 0);
        check.asks("line(0) of none again", () -> p.line(0), NONE);
    }

    private static void linesCut() {
        for (int w = 6; w <= 16; w++) {
            for (int margin = 0; margin <= 2; margin++) {
                begin("LINE k: MARGIN and (k times (W less 2 times MARGIN) as a float, by COLUMNS, cut)", w, 9, margin, 40);
                for (int columns = 1; columns <= 6; columns++) {
                    p.sets(4, columns);
                    for (int k = 0; k < columns; k++) {
                        int due = margin + (int) ((float) (k * (w - 2 * margin)) / (float) columns);
                        check.due("line(" + k + ") of " + columns + ", W " + w, p.line(k), due);
                    }
                }
            }
        }
    }

    // ---- it FITS

    private static void onTheSheet() {
        begin("It FITS at a place, if all it covers lies on THE SHEET", 16, 16, 0, 10);
        check.items(1, 0, 1, 1, 1);
        int[][] corners = {{0, 0}, {15, 0}, {0, 15}, {15, 15}};
        for (int[] c : corners) {
            check.asks("fits in a corner", () -> p.fits(0, c[0], c[1]), 1);
            check.due("lays in a corner", p.lays(0, c[0], c[1]), c[0] + c[1] == 0 ? 0 : 1);
            check.place(0, c[0], c[1]);
            check.due("of(0, 9)", p.of(0, 9), 1);
        }
        p.becomes(0, 2, 2);
        check.asks("fits(0, 14, 15), 2 by 1", () -> p.fits(0, 14, 15), 1);
        check.asks("fits(0, 15, 15), 2 by 1", () -> p.fits(0, 15, 15), 0);
        check.refused("lays(0, 15, 15)", () -> p.lays(0, 15, 15), NO);
        check.due("of(0, 9): it lies at 15, 15", p.of(0, 9), 0);
        p.sheet(15, 16);
        check.asks("fits(0, 13, 0)", () -> p.fits(0, 13, 0), 1);
        check.asks("fits(0, 14, 0)", () -> p.fits(0, 14, 0), 0);
        check.asks("fits(0, 13, 15)", () -> p.fits(0, 13, 15), 1);
        p.sheet(15, 15);
        check.asks("fits(0, 13, 15)", () -> p.fits(0, 13, 15), 0);
        check.asks("fits(0, 15, 15), beyond", () -> p.fits(0, 15, 15), 0);
    }

    private static void insideTheMargin() {
        for (int m = 0; m <= 2; m++) {
            int margin = m;
            begin("MARGIN CELLS or more from each edge", 10, 12, margin, 30);
            check.items(1, 0, 1, 1, 1);
            int right = 7 - margin;
            int below = 9 - margin;
            int[][] fitting = {{margin, margin}, {right, margin}, {margin, below}, {right, below}};
            for (int[] f : fitting) {
                check.asks("fits(0, " + f[0] + ", " + f[1] + ")", () -> p.fits(0, f[0], f[1]), 1);
                int lay = p.of(0, 4) == NONE ? 0 : 1;
                check.due("lays(0, " + f[0] + ", " + f[1] + ")", p.lays(0, f[0], f[1]), lay);
            }
            int[][] beyond = {{right + 1, margin}, {right + 1, below}, {margin, below + 1}, {right, below + 1}};
            for (int[] b : beyond) {
                check.asks("fits(0, " + b[0] + ", " + b[1] + ")", () -> p.fits(0, b[0], b[1]), 0);
                check.refused("lays", () -> p.lays(0, b[0], b[1]), NO);
            }
            if (margin > 0) {
                check.asks("fits to the left", () -> p.fits(0, margin - 1, margin), 0);
                check.asks("fits above", () -> p.fits(0, margin, margin - 1), 0);
                check.refused("lays to the left", () -> p.lays(0, margin - 1, margin), NO);
                check.refused("lays above", () -> p.lays(0, margin, margin - 1), NO);
            }
            check.asks("free(0, 3)", () -> p.free(0, 3), (8 - 2 * margin) * (10 - 2 * margin));
        }
    }

    private static void onLines() {
        begin("x is one of LINES, if there are any", 14, 9, 1, 10);
        check.items(1, 0, 1, 1, 1);
        for (int columns = 0; columns <= 6; columns++) {
            p.sets(4, columns);
            for (int x = 1; x < 13; x++) {
                boolean isLine = columns == 0;
                for (int k = 0; k < columns; k++) {
                    isLine |= p.line(k) == x;
                }
                check.due("fits(0, " + x + ", 7), COLUMNS " + columns, p.fits(0, x, 7), isLine ? 1 : 0);
            }
        }
        p.sets(4, 6);
        check.due("lays(0, 11, 1), the last LINE", p.lays(0, 11, 1), 0);
        check.refused("lays(0, 12, 1)", () -> p.lays(0, 12, 1), NO);
        p.sets(4, 5);
        check.due("of(0, 9): no LINE is at 11", p.of(0, 9), 0);
        p.sets(4, 0);
        check.due("of(0, 9): no LINES", p.of(0, 9), 1);
    }

    private static void apartByTheGutter() {
        for (int g = 0; g <= 2; g++) {
            int gutter = g;
            begin("apart: to the left or right with GUTTER CELLS or more between them, or above or below", 16, 16, 0, 20);
            p.sets(1, gutter);
            check.items(1, 0, 1, 1, 1);
            check.items(1, 0, 1, 2, 1);
            check.due("lays(1, 6, 7)", p.lays(1, 6, 7), 0);
            // 1 covers 6, 7 to 9, 8; 0 is 2 by 2. Where it is too near is one rectangle.
            for (int y = 0; y <= 14; y++) {
                for (int x = 0; x <= 14; x++) {
                    boolean beside = x + 1 + gutter < 6 || x - gutter > 9;
                    boolean overOrUnder = y + 1 + gutter < 7 || y - gutter > 8;
                    check.due("fits(0, " + x + ", " + y + "), GUTTER " + gutter, p.fits(0, x, y), beside || overOrUnder ? 1 : 0);
                }
            }
            check.refused("lays too near", () -> p.lays(0, 5 - gutter, 7), NO);
            check.due("lays as near as can be", p.lays(0, 4 - gutter, 7), 0);
            check.due("of(0, 9)", p.of(0, 9), 1);
            check.due("of(1, 9)", p.of(1, 9), 1);
            if (gutter < 2) {
                p.sets(1, gutter + 1);
                check.due("of(0, 9), a wider GUTTER", p.of(0, 9), 0);
                check.due("of(1, 9), a wider GUTTER", p.of(1, 9), 0);
            }
        }
    }

    private static void apartFromThoseThatLie() {
        begin("each other ITEM that lies somewhere is apart from it", 8, 8, 0, 40);
        check.items(3, 0, 1, 1, 1);
        check.asks("fits: none lies", () -> p.fits(0, 2, 2), 1);
        p.lays(0, 2, 2);
        check.asks("fits: itself counts not", () -> p.fits(0, 3, 3), 1);
        check.asks("fits: 0 lies there", () -> p.fits(1, 3, 3), 0);
        p.off(0);
        check.asks("fits: 0 lies nowhere", () -> p.fits(1, 3, 3), 1);
        p.lays(0, 4, 4);
        p.sheet(7, 8);
        check.due("of(0, 9): it sticks out", p.of(0, 9), 0);
        check.asks("fits: one that does not FIT is to be apart from, too", () -> p.fits(1, 3, 3), 0);
        check.asks("fits", () -> p.fits(1, 0, 3), 1);
        check.due("of(1, 9): 0, if nowhere", p.of(1, 9), 0);
    }

    private static void placesInOrder() {
        begin("Places are in order by y, then by x", 16, 16, 0, 10);
        check.items(1, 0, 1, 1, 1);
        check.asks("free(0, 0)", () -> p.free(0, 0), 0);
        check.asks("free(0, 2)", () -> p.free(0, 2), 16 * 15 + 15);
        check.asks("free(0, 3)", () -> p.free(0, 3), 256);
        p.item(0, 1, 4, 1);
        p.sets(2, 40);
        check.asks("free(1, 3): as wide as THE SHEET", () -> p.free(1, 3), 13);
        check.asks("free(1, 2)", () -> p.free(1, 2), 16 * 12);
        p.lays(1, 0, 4);
        check.asks("free(0, 0): above", () -> p.free(0, 0), 0);
        p.sets(1, 1);
        check.asks("free(0, 0): below alone", () -> p.free(0, 0), 16 * 9);
        check.asks("free(0, 3)", () -> p.free(0, 3), 13 * 4);
        p.sets(1, 0);
        p.sheet(16, 9);
        check.asks("free(0, 3): above alone", () -> p.free(0, 3), 13);
        check.asks("free(0, 2): above alone", () -> p.free(0, 2), 12);
        begin("free: NONE: there is no such place; how many places (3; 0: none)", 8, 8, 0, 80);
        check.items(2, 0, 1, 1, 1);
        for (int w = 0; w <= 2; w++) {
            int what = w;
            check.asks("free(0, " + what + "), just one", () -> p.free(0, what), 0);
        }
        check.asks("free(0, 3), just one", () -> p.free(0, 3), 1);
        p.lays(0, 0, 0);
        for (int w = 0; w <= 2; w++) {
            int what = w;
            check.asks("free(0, " + what + "), where it lies", () -> p.free(0, what), 0);
            check.asks("free(1, " + what + "), none", () -> p.free(1, what), NONE);
        }
        check.asks("free(1, 3), none", () -> p.free(1, 3), 0);
    }

    private static void packing() {
        begin("PACKING: no ITEM lies anywhere; then, by RANK, of like RANK by number", 8, 16, 0, 40);
        check.changes("packs() of none", () -> p.packs(), 0);
        p.sets(3, 10);
        int[] ranks = {6, 1, 3, 6, 2, 1, 5, 4};
        for (int rank : ranks) {
            p.item(0, rank, 1, 1);
        }
        check.changes("packs(): eight fill THE SHEET", () -> p.packs(), 8);
        int[] order = {1, 5, 4, 2, 7, 6, 0, 3};
        for (int i = 0; i < 8; i++) {
            check.place(order[i], i % 2 * 4, i / 2 * 4);
        }
        check.due("white(0)", p.white(0), 0);
        p.becomes(3, 1, 1);
        p.becomes(1, 1, 6);
        check.changes("packs(), other RANKS", () -> p.packs(), 8);
        int[] next = {3, 5, 4, 2, 7, 6, 0, 1};
        for (int i = 0; i < 8; i++) {
            check.place(next[i], i % 2 * 4, i / 2 * 4);
        }
    }

    private static void packingOnWideAndHighSheets() {
        begin("PACKING: the first place where it FITS, on a wide sheet, on a high one", 16, 6, 0, 60);
        check.items(2, 0, 1, 1, 1);
        check.items(2, 0, 6, 1, 1);
        check.changes("packs()", () -> p.packs(), 4);
        check.place(0, 0, 0);
        check.place(1, 6, 0);
        check.place(2, 12, 0);
        check.place(3, 13, 0);
        p.sheet(6, 16);
        check.changes("packs()", () -> p.packs(), 4);
        check.place(0, 0, 0);
        check.place(1, 0, 6);
        check.place(2, 0, 12);
        check.place(3, 1, 12);
        p.sets(1, 2);
        check.changes("packs(), with a GUTTER", () -> p.packs(), 2);
        check.place(1, 0, 8);
        check.place(2, NONE, NONE);
        check.place(3, NONE, NONE);
    }

    private static void packingWithoutPlace() {
        begin("PACKING: it lies nowhere, if there is none", 8, 7, 0, 40);
        p.sets(3, 10);
        check.items(1, 0, 1, 1, 1);
        check.items(1, 0, 2, 4, 1);
        check.items(1, 1, 3, 1, 1);
        check.items(1, 1, 4, 1, 4);
        check.changes("packs()", () -> p.packs(), 2);
        check.place(0, 0, 0);
        check.place(1, NONE, NONE);
        check.place(2, 4, 0);
        check.place(3, NONE, NONE);
        check.due("all(0)", p.all(0), 5);
    }

    // ---- the last one, the first one, of one, of eight

    private static void lastItems() {
        begin("drops: those behind it are one nearer: how many are left");
        p.sets(2, 10);
        for (int k = 0; k < 8; k++) {
            p.item(k % 2, 1 + k % 6, 1 + k % 4, 1);
            p.lays(k, 1 + k, 1 + k);
        }
        check.changes("drops(7)", () -> p.drops(7), 7);
        check.place(6, 7, 7);
        check.changes("drops(0)", () -> p.drops(0), 6);
        check.place(0, 2, 2);
        check.place(5, 7, 7);
        check.due("of(5, 1)", p.of(5, 1), 1);
        check.due("of(0, 2)", p.of(0, 2), 2);
        for (int left = 5; left >= 0; left--) {
            check.due("drops(0)", p.drops(0), left);
            check.due("told(4)", p.told(4), left);
        }
        check.due("all(0)", p.all(0), 0);
        check.due("item(0, 1, 1, 1)", p.item(0, 1, 1, 1), 0);
        check.place(0, NONE, NONE);

        begin("drops: those behind it are one nearer, with all that they have");
        p.item(0, 1, 4, 1);
        p.item(1, 2, 1, 4);
        p.item(0, 6, 3, 2);
        p.keeps(0);
        int[][] due = new int[3][10];
        for (int k = 0; k < 3; k++) {
            for (int what = 0; what <= 9; what++) {
                due[k][what] = p.of(k, what);
            }
        }
        for (int gone = 0; gone < 2; gone++) {
            p.drops(0);
            for (int k = gone + 1; k < 3; k++) {
                for (int what = 0; what <= 9; what++) {
                    int now = k - gone - 1;
                    check.due("of(" + now + ", " + what + ")", p.of(now, what), due[k][what]);
                }
            }
        }

        begin("off: how many lie yet");
        p.sets(2, 10);
        check.items(8, 0, 6, 1, 1);
        check.due("packs()", p.packs(), 8);
        for (int left = 7; left >= 0; left--) {
            int k = 7 - left;
            check.due("off(" + k + ")", p.off(k), left);
            check.due("all(0)", p.all(0), 255 & ~((2 << k) - 1));
        }

        begin("becomes: it stays where it lies");
        check.items(8, 0, 6, 1, 1);
        p.packs();
        int x = p.of(7, 4);
        int y = p.of(7, 5);
        check.changes("becomes(7, 1, 1)", () -> p.becomes(7, 1, 1), 6);
        check.changes("becomes(7, 2, 4)", () -> p.becomes(7, 2, 4), 1);
        check.place(7, x, y);
        check.size(7, 16, 4);
        check.size(6, 1, 1);
    }

    private static void swapsAtTheEdges() {
        begin("swaps: two ITEMS change places (one may lie nowhere): how many of both FIT then", 10, 10, 0, 20);
        check.items(7, 0, 1, 1, 1);
        check.items(1, 0, 1, 2, 1);
        p.lays(7, 6, 8);
        check.changes("swaps(0, 7), the first one nowhere", () -> p.swaps(0, 7), 1);
        check.place(0, 6, 8);
        check.place(7, NONE, NONE);
        check.changes("swaps(0, 7), the second one nowhere", () -> p.swaps(0, 7), 1);
        check.place(0, NONE, NONE);
        check.place(7, 6, 8);
        check.refused("swaps(0, 1), both nowhere", () -> p.swaps(0, 1), NO);
        check.refused("swaps(1, 1), alike and nowhere", () -> p.swaps(1, 1), -2);
        p.lays(0, 8, 0);
        check.changes("swaps(7, 0): one sticks out", () -> p.swaps(7, 0), 1);
        check.place(7, 8, 0);
        check.due("all(1)", p.all(1), 128);
        check.changes("swaps(7, 0) back", () -> p.swaps(7, 0), 2);
        p.lays(0, 8, 4);
        p.lays(1, 8, 6);
        check.due("swaps(0, 1)", p.swaps(0, 1), 2);
        p.sheet(9, 10);
        check.due("swaps(0, 1): both stick out", p.swaps(0, 1), 0);
    }

    private static void atTheEdges() {
        begin("at: the least ITEM that covers a CELL; NONE", 16, 6, 0, 20);
        check.items(2, 0, 1, 1, 1);
        int[][] corners = {{0, 0}, {15, 0}, {0, 5}, {15, 5}};
        for (int[] c : corners) {
            check.asks("at a corner", () -> p.at(c[0], c[1]), NONE);
        }
        int[][] places = {{0, 0}, {14, 0}, {0, 4}, {14, 4}};
        for (int i = 0; i < 4; i++) {
            int[] c = corners[i];
            p.lays(1, places[i][0], places[i][1]);
            check.asks("at a corner", () -> p.at(c[0], c[1]), 1);
        }
        check.asks("at(14, 4)", () -> p.at(14, 4), 1);
        check.asks("at(13, 4)", () -> p.at(13, 4), NONE);
        check.asks("at(14, 3)", () -> p.at(14, 3), NONE);
        p.lays(0, 12, 4);
        p.becomes(0, 2, 2);
        check.asks("at(13, 5)", () -> p.at(13, 5), 0);
        check.asks("at(15, 5): both cover it", () -> p.at(15, 5), 0);
        p.off(0);
        check.asks("at(15, 5)", () -> p.at(15, 5), 1);
        p.sheet(15, 6);
        check.asks("at(14, 5): what sticks out covers what is on THE SHEET", () -> p.at(14, 5), 1);
        check.refused("at(15, 5): no CELL of THE SHEET", () -> p.at(15, 5), -2);
    }
}
