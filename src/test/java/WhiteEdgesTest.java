/**
 * The sentences of the document's second part up to TIDYING (WHITE, CENTRE, KEPT SHEETS) that name a boundary
 * case, each with a test of its own, that begins with the sentence.
 */
public final class WhiteEdgesTest {
    private static final int NONE = PosterSheet.NONE;
    private static final Check check = new Check();
    private static PosterSheet p;

    public static void main(String[] args) {
        stickingOut();
        nothingWhite();
        oneCellWhite();
        likeBlocks();
        widestBlocks();
        parts();
        narrowParts();
        share();
        centreOfNone();
        centreOfOne();
        bestOfLikeOnes();
        bestAtTheFarEdge();
        allOfNoneAndOfEight();
        pairs();
        sorted();
        kept();
        keptNumbers();
        otherwiseAtTheEdges();
        otherwiseOfOblongs();
        far();
        staysAtTheEdges();
        staysOfLikeOnes();
        tidiesNearest();
        tidiesAtTheUpperEdge();
        tidiesInOrder();
        tidiesWithoutPlace();
        check.end();
    }

    private static void begin(String sentence, int w, int h, int margin, int big) {
        p = check.begin(sentence, w, h, margin, big);
    }

    private static void whites(int cells, int block, int place, int wide, int parts) {
        int[] due = {cells, block, place, wide, parts};
        for (int w = 0; w < due.length; w++) {
            int what = w;
            check.asks("white(" + what + ")", () -> p.white(what), due[what]);
        }
    }

    private static void centres(double x, double y, double balance) {
        check.asks("centre(0)", () -> p.centre(0), Double.doubleToLongBits(x));
        check.asks("centre(1)", () -> p.centre(1), Double.doubleToLongBits(y));
        check.asks("centre(2)", () -> p.centre(2), Double.doubleToLongBits(balance));
    }

    private static void alls(int lying, int badly, int weight, int pairs) {
        int[] due = {lying, badly, weight, pairs};
        for (int w = 0; w < due.length; w++) {
            int what = w;
            check.asks("all(" + what + ")", () -> p.all(what), due[what]);
        }
    }

    // ---- WHITE

    private static void stickingOut() {
        begin("WHITE (an ITEM that sticks out covers what is on THE SHEET)", 16, 16, 0, 40);
        check.items(2, 0, 1, 1, 1);
        p.lays(0, 6, 6);
        p.sheet(9, 16);
        check.due("white(0): three columns of it", p.white(0), 9 * 16 - 12);
        p.sheet(9, 7);
        check.due("white(0): one row of it", p.white(0), 9 * 7 - 3);
        p.sheet(7, 7);
        check.due("white(0): one CELL of it", p.white(0), 48);
        check.due("at(6, 6)", p.at(6, 6), 0);
        p.sheet(6, 16);
        whites(96, 96, 0, 6, 1);
        p.sheet(16, 6);
        whites(96, 96, 0, 16, 1);
        check.due("all(0): it lies yet", p.all(0), 1);
        check.due("all(1)", p.all(1), 1);

        begin("WHITE: CELLS that no ITEM covers (two may cover one)", 12, 12, 0, 40);
        check.items(2, 0, 1, 1, 1);
        p.lays(0, 0, 0);
        p.lays(1, 4, 0);
        p.becomes(0, 2, 2);
        check.due("white(0): both cover 16", p.white(0), 144 - 32);
        p.becomes(0, 2, 3);
        check.due("white(0)", p.white(0), 144 - 48);
    }

    private static void nothingWhite() {
        begin("the greatest BLOCK: CELLS (1; 0: none) .. (2, 3: NONE: none), PARTS (4)", 6, 6, 0, 60);
        check.items(1, 0, 1, 1, 1);
        whites(36, 36, 0, 6, 1);
        p.lays(0, 0, 0);
        whites(0, 0, NONE, NONE, 0);
        check.asks("white(5): none", () -> p.white(5), 0);
        p.off(0);
        whites(36, 36, 0, 6, 1);
    }

    private static void oneCellWhite() {
        begin("BLOCK: a rectangle of WHITE (the least: one CELL)", 7, 6, 0, 60);
        check.items(2, 0, 1, 1, 1);
        p.lays(0, 0, 0);
        p.sets(3, 30);
        p.becomes(1, 1, 6);
        int[][] free = {{6, 0}, {6, 5}};
        for (int[] f : free) {
            check.due("lays(1)", p.lays(1, f[0], f[1]), f[1] == 0 ? 0 : 1);
            whites(5, 5, f[1] == 0 ? 22 : 6, 1, 1);
        }
        check.items(5, 1, 6, 1, 4);
        for (int k = 2; k <= 5; k++) {
            p.lays(k, 6, k - 1);
        }
        whites(1, 1, 6, 1, 1);
        p.lays(6, 6, 0);
        whites(0, 0, NONE, NONE, 0);
        p.off(2);
        whites(1, 1, 22, 1, 1);
    }

    private static void likeBlocks() {
        begin("BLOCK .. of like ones that with the first place", 12, 12, 0, 40);
        check.items(1, 0, 1, 3, 1);
        p.lays(0, 0, 4);
        whites(96, 48, 0, 12, 2);
        p.sheet(12, 13);
        whites(108, 60, 16 * 8, 12, 2);
        p.sheet(12, 11);
        whites(84, 48, 0, 12, 2);

        begin("BLOCK .. of like ones in one row that to the left", 12, 12, 0, 40);
        check.items(3, 0, 1, 1, 1);
        p.lays(0, 4, 0);
        p.lays(1, 4, 4);
        p.lays(2, 4, 8);
        whites(96, 48, 0, 4, 2);
        p.sheet(13, 12);
        whites(108, 60, 8, 5, 2);
    }

    private static void widestBlocks() {
        begin("BLOCK .. then the widest", 12, 12, 0, 60);
        check.items(1, 0, 1, 1, 1);
        p.lays(0, 6, 6);
        whites(108, 72, 0, 12, 1);
        p.lays(0, 0, 0);
        // 6 by 12 at 6, 0 comes before 12 by 6 at 0, 6.
        whites(108, 72, 6, 6, 1);
        p.lays(0, 6, 0);
        // 6 by 12 at 0, 0 comes first.
        whites(108, 72, 0, 6, 1);
        p.lays(0, 0, 6);
        // 12 by 6 at 0, 0 comes before 6 by 12 at 6, 0.
        whites(108, 72, 0, 12, 1);
    }

    private static void parts() {
        begin("PARTS: WHITE CELLS hang together side by side; how many such heaps there are", 6, 16, 0, 14);
        check.items(8, 0, 1, 4, 1);
        check.due("of(0, 6)", p.of(0, 6), 6);
        check.due("of(0, 7)", p.of(0, 7), 1);
        for (int k = 0; k < 8; k++) {
            check.asks("white(4)", () -> p.white(4), k + 1);
            p.lays(k, 0, 2 * k + 1);
        }
        whites(48, 6, 0, 6, 8);
        p.off(0);
        whites(54, 18, 0, 6, 7);

        begin("PARTS: corner to corner is not side by side", 6, 6, 0, 30);
        check.items(2, 0, 1, 1, 1);
        p.lays(0, 0, 0);
        p.lays(1, 3, 3);
        whites(18, 9, 3, 3, 2);
        p.lays(1, 3, 0);
        whites(18, 18, 48, 6, 1);

        begin("PARTS: one row or column at an edge is one", 6, 6, 0, 60);
        p.item(1, 1, 3, 4);
        check.due("of(0, 6)", p.of(0, 6), 5);
        p.lays(0, 1, 0);
        whites(6, 6, 0, 1, 1);
        p.lays(0, 0, 0);
        whites(6, 6, 5, 1, 1);
        p.sheet(6, 7);
        p.becomes(0, 0, 0);
        p.becomes(0, 2, 1);
        p.lays(0, 0, 0);
        whites(6, 6, 96, 6, 1);
        p.lays(0, 0, 1);
        whites(6, 6, 0, 6, 1);

        begin("PARTS: round an ITEM they hang together", 6, 6, 0, 40);
        check.items(1, 0, 1, 1, 1);
        p.lays(0, 1, 1);
        whites(20, 6, 0, 6, 1);
    }

    /** Round the corner in each direction, through one CELL. */
    private static void narrowParts() {
        begin("PARTS: CELLS hang together side by side, to the left, to the right", 6, 6, 0, 60);
        p.sets(3, 12);
        p.item(1, 1, 2, 3);
        p.item(1, 2, 1, 4);
        p.lays(0, 2, 0);
        p.lays(1, 0, 0);
        // Column 1, and the CELL at 0, 5.
        whites(7, 6, 1, 1, 1);
        p.lays(1, 1, 1);
        // Column 0, and the CELL at 1, 0.
        whites(7, 6, 0, 1, 1);
        p.off(1);
        p.lays(0, 0, 0);
        p.lays(1, 5, 0);
        // Column 4, and the CELL at 5, 5.
        whites(7, 6, 4, 1, 1);
        p.off(1);
        p.lays(1, 4, 1);
        whites(7, 6, 5, 1, 1);

        begin("PARTS: CELLS hang together side by side, up, down", 6, 6, 0, 40);
        p.sets(3, 30);
        p.item(1, 1, 3, 2);
        p.item(0, 2, 3, 1);
        p.lays(0, 0, 2);
        p.lays(1, 1, 0);
        // Row 1, and the CELLS at 0, 0 and 5, 0.
        whites(8, 6, 16, 6, 1);
        p.lays(1, 2, 0);
        whites(8, 6, 16, 6, 1);
        p.lays(1, 0, 0);
        whites(8, 6, 16, 6, 1);
        p.lays(1, 1, 1);
        whites(8, 6, 0, 6, 1);
        p.becomes(1, 2, 4);
        whites(7, 6, 0, 6, 1);
        p.off(1);
        p.lays(0, 0, 0);
        p.lays(1, 1, 4);
        // Row 5, and the CELL at 0, 4.
        whites(7, 6, 80, 6, 1);
    }

    private static void share() {
        begin("WHITE by all CELLS, a float, as its bits", 16, 16, 0, 10);
        check.items(1, 0, 1, 1, 1);
        check.asks("white(5): all", () -> p.white(5), Float.floatToIntBits(1.0f));
        p.lays(0, 15, 15);
        check.asks("white(5): all but one", () -> p.white(5), Float.floatToIntBits(255f / 256f));
        p.sheet(7, 6);
        p.becomes(0, 2, 4);
        check.asks("white(5): it lies beyond", () -> p.white(5), Float.floatToIntBits(1.0f));
        p.sets(2, 70);
        p.lays(0, 0, 0);
        check.asks("white(5): all", () -> p.white(5), Float.floatToIntBits(1.0f));
        p.becomes(0, 2, 1);
        p.sheet(7, 16);
        p.lays(0, 0, 0);
        check.asks("white(5)", () -> p.white(5), Float.floatToIntBits(63f / 112f));
        p.sheet(16, 16);
        p.sets(2, 10);
        check.items(7, 0, 1, 1, 1);
        p.sets(2, 40);
        check.due("packs()", p.packs(), 8);
        p.sheet(16, 9);
        check.asks("white(5): one CELL in nine", () -> p.white(5), Float.floatToIntBits(16f / 144f));
        p.sheet(16, 8);
        check.asks("white(5): none", () -> p.white(5), 0);
    }

    // ---- CENTRE, BALANCE, BEST

    private static void centreOfNone() {
        begin("CENTRE: W by 2.0 and H by 2.0, if none lies", 7, 16, 0, 10);
        centres(3.5, 8.0, 0.0);
        check.items(1, 0, 1, 1, 1);
        centres(3.5, 8.0, 0.0);
        p.lays(0, 6, 0);
        centres(6.5, 0.5, 9.0 + 56.25);
        p.off(0);
        centres(3.5, 8.0, 0.0);
        p.sheet(16, 9);
        centres(8.0, 4.5, 0.0);
    }

    private static void centreOfOne() {
        begin("CENTRE: of all ITEMS that lie somewhere", 8, 8, 0, 20);
        check.items(1, 0, 6, 1, 1);
        check.items(1, 0, 1, 1, 1);
        p.lays(1, 3, 3);
        centres(4.0, 4.0, 0.0);
        p.lays(1, 0, 6);
        centres(1.0, 7.0, 18.0);
        p.sheet(6, 6);
        // It lies beyond: all of it counts nevertheless.
        centres(1.0, 7.0, 4.0 + 16.0);
        p.sheet(8, 8);
        p.lays(0, 7, 0);
        double x = (24 * 1.0 + 1 * 7.5) / 25.0;
        double y = (24 * 7.0 + 1 * 0.5) / 25.0;
        centres(x, y, (x - 4.0) * (x - 4.0) + (y - 4.0) * (y - 4.0));
    }

    private static void bestOfLikeOnes() {
        begin("BEST .. of like ones the first", 7, 7, 0, 20);
        check.items(1, 0, 1, 1, 1);
        check.asks("free(0, 1): of four", () -> p.free(0, 1), 16 * 2 + 2);
        p.sheet(8, 7);
        check.asks("free(0, 1): of two, one above the other", () -> p.free(0, 1), 16 * 2 + 3);
        p.sheet(7, 8);
        check.asks("free(0, 1): of two, side by side", () -> p.free(0, 1), 16 * 3 + 2);
        p.sets(4, 2);
        check.asks("free(0, 1): on LINES 0 and 3", () -> p.free(0, 1), 16 * 3 + 3);
        p.sets(4, 1);
        check.asks("free(0, 1): on LINE 0", () -> p.free(0, 1), 16 * 3);

        begin("BEST place of an ITEM: of all where it FITS (wherever it lies now, that counts not)", 8, 8, 0, 20);
        check.items(3, 0, 1, 1, 1);
        p.lays(0, 3, 3);
        check.asks("free(0, 1): where it lies", () -> p.free(0, 1), 16 * 3 + 3);
        p.lays(0, 0, 0);
        check.asks("free(0, 1): where it lies counts not", () -> p.free(0, 1), 16 * 3 + 3);
        check.asks("free(1, 1): across", () -> p.free(1, 1), 16 * 6 + 6);
        p.lays(1, 6, 6);
        check.asks("free(0, 1): across", () -> p.free(0, 1), 0);
        check.asks("free(2, 1): in the middle", () -> p.free(2, 1), 16 * 3 + 3);
    }

    private static void bestAtTheFarEdge() {
        begin("BEST place of an ITEM: of all where it FITS, on a wide sheet, on a high one", 16, 6, 0, 60);
        check.items(1, 0, 1, 2, 1);
        check.items(1, 0, 6, 1, 1);
        p.lays(0, 0, 0);
        check.asks("free(1, 1): to the right alone", () -> p.free(1, 1), 16 * 2 + 15);
        p.sheet(6, 16);
        p.becomes(0, 2, 1);
        p.lays(0, 0, 0);
        check.asks("free(1, 1): below alone", () -> p.free(1, 1), 16 * 15 + 2);
        check.asks("free(1, 3)", () -> p.free(1, 3), 60);
    }

    // ---- all, sorted

    private static void allOfNoneAndOfEight() {
        begin("all, of none", 12, 12, 0, 10);
        alls(0, 0, 0, 0);
        p.sets(3, 10);
        check.items(8, 0, 6, 1, 1);
        alls(0, 0, 0, 0);
        p.packs();
        alls(255, 0, 8, 0);
        p.sets(1, 1);
        alls(255, 255, 8, 0);
        p.becomes(7, 1, 1);
        alls(255, 255, 13, 7);
        p.off(0);
        alls(254, 254, 12, 7);
    }

    private static void pairs() {
        begin("pairs of unlike RANK have the ITEM of the lesser RANK no larger (all ITEMS)", 12, 12, 1, 40);
        p.sets(3, 10);
        check.items(1, 0, 1, 1, 1);
        check.items(1, 0, 2, 1, 1);
        check.asks("all(3): as large is no larger", () -> p.all(3), 1);
        p.becomes(0, 2, 2);
        check.asks("all(3): larger", () -> p.all(3), 0);
        p.becomes(1, 2, 3);
        check.asks("all(3): smaller", () -> p.all(3), 1);
        p.becomes(0, 1, 2);
        check.asks("all(3): of like RANK", () -> p.all(3), 0);
        p.becomes(0, 1, 3);
        check.asks("all(3): the lesser RANK is the larger one", () -> p.all(3), 0);
        p.becomes(0, 2, 3);
        check.asks("all(3): as large", () -> p.all(3), 1);
        // WIDE times HIGH, not each: 8 by 4 and, of another SIDE, 5 by 5.
        p.sets(2, 50);
        p.sets(3, 12);
        p.becomes(0, 1, 1);
        p.becomes(0, 2, 1);
        p.becomes(1, 2, 2);
        check.due("of(0, 6)", p.of(0, 6), 5);
        check.due("of(1, 6)", p.of(1, 6), 8);
        check.due("of(1, 7)", p.of(1, 7), 4);
        check.asks("all(3): 25 and 32", () -> p.all(3), 1);

        begin("pairs: of eight unlike ones", 12, 12, 1, 40);
        p.sets(3, 10);
        for (int k = 0; k < 8; k++) {
            p.item(0, k < 6 ? 6 - k : 1, 1, 1);
        }
        // 28 pairs, three of which are of RANK 1 alike.
        check.asks("all(3)", () -> p.all(3), 25);
    }

    private static void sorted() {
        begin("sorted: the i-th (0 on); NONE: not so many", 12, 12, 1, 40);
        check.asks("sorted(1, 0): none", () -> p.sorted(1, 0), NONE);
        check.items(8, 1, 3, 1, 1);
        for (int n = 0; n < 8; n++) {
            int i = n;
            check.asks("sorted(1, " + i + "), of like ones by number", () -> p.sorted(1, i), i);
        }
        check.asks("sorted(1, 8)", () -> p.sorted(1, 8), NONE);
        check.asks("sorted(1, most)", () -> p.sorted(1, Integer.MAX_VALUE), NONE);
        check.asks("sorted(0, 0): none of the other SORT", () -> p.sorted(0, 0), NONE);
        p.becomes(7, 1, 1);
        p.becomes(0, 1, 6);
        int[] due = {7, 1, 2, 3, 4, 5, 6, 0};
        for (int n = 0; n < 8; n++) {
            int i = n;
            check.asks("sorted(1, " + i + ")", () -> p.sorted(1, i), due[i]);
        }
        p.becomes(3, 0, 0);
        check.asks("sorted(0, 0)", () -> p.sorted(0, 0), 3);
        check.asks("sorted(0, 1)", () -> p.sorted(0, 1), NONE);
        check.asks("sorted(1, 3)", () -> p.sorted(1, 3), 4);
        check.asks("sorted(1, 6)", () -> p.sorted(1, 6), 0);
        check.asks("sorted(1, 7)", () -> p.sorted(1, 7), NONE);
    }

    // ---- KEPT SHEETS

    private static void kept() {
        begin("KEPT SHEETS 0 .. 2; keeps: how many ITEMS lie on it", 12, 12, 0, 10);
        check.due("told(12)", p.told(12), 0);
        check.changes("keeps(0), nothing lies", () -> p.keeps(0), 0);
        check.due("told(12)", p.told(12), 1);
        check.changes("takes(0), no ITEM", () -> p.takes(0), 0);
        check.items(8, 0, 6, 1, 1);
        p.packs();
        check.changes("keeps(2), eight lie", () -> p.keeps(2), 8);
        check.due("told(12)", p.told(12), 5);
        check.changes("takes(0): none lies", () -> p.takes(0), 0);
        check.due("all(0)", p.all(0), 0);
        check.changes("takes(2): eight lie", () -> p.takes(2), 8);
        check.due("all(0)", p.all(0), 255);
        p.off(0);
        check.changes("keeps(1), seven lie", () -> p.keeps(1), 7);
        check.due("told(12)", p.told(12), 7);
        check.due("otherwise(2, 0)", p.otherwise(2, 0), 1);
        check.changes("keeps(2) anew", () -> p.keeps(2), 7);
        check.due("otherwise(2, 0)", p.otherwise(2, 0), 0);
        check.due("told(12)", p.told(12), 7);
    }

    private static void keptNumbers() {
        begin("takes: those with a number that it has no place for lie nowhere", 12, 12, 0, 10);
        check.items(2, 0, 6, 1, 1);
        p.lays(1, 11, 11);
        p.keeps(1);
        check.items(6, 0, 6, 1, 1);
        p.packs();
        check.changes("takes(1)", () -> p.takes(1), 1);
        check.due("all(0): 0 lay nowhere, 2 to 7 were not yet", p.all(0), 2);
        check.place(1, 11, 11);
        p.drops(1);
        check.due("takes(1): 1 is what was 2", p.takes(1), 1);
        check.place(1, 11, 11);
        for (int k = 0; k < 6; k++) {
            p.drops(1);
        }
        check.due("told(4)", p.told(4), 1);
        check.due("takes(1): no ITEM has number 1", p.takes(1), 0);
        check.due("otherwise(1, 0)", p.otherwise(1, 0), 1);

        begin("takes (whether they FIT or not)", 16, 16, 0, 10);
        check.items(2, 0, 1, 1, 1);
        p.lays(0, 15, 15);
        p.lays(1, 14, 15);
        p.keeps(0);
        p.packs();
        p.sheet(6, 6);
        p.sets(2, 40);
        p.sets(0, 2);
        check.due("takes(0)", p.takes(0), 2);
        check.place(0, 15, 15);
        check.place(1, 14, 15);
        alls(3, 3, 192, 0);
    }

    private static void otherwiseAtTheEdges() {
        begin("OTHERWISE: how many numbers 0 .. 7 have an ITEM that lies somewhere now or then, but not both alike", 16, 16, 0, 10);
        p.keeps(2);
        check.asks("otherwise(2, 0): none, none", () -> p.otherwise(2, 0), 0);
        check.items(8, 0, 1, 1, 1);
        check.asks("otherwise(2, 0): eight that lie nowhere", () -> p.otherwise(2, 0), 0);
        p.packs();
        check.asks("otherwise(2, 0): eight that lie now", () -> p.otherwise(2, 0), 8);
        p.keeps(0);
        check.asks("otherwise(0, 0): eight alike", () -> p.otherwise(0, 0), 0);
        for (int k = 0; k < 8; k++) {
            int due = k + 1;
            p.off(k);
            check.asks("otherwise(0, 0): " + k + " is off, too", () -> p.otherwise(0, 0), due);
        }
        for (int k = 0; k < 8; k++) {
            p.drops(0);
        }
        check.asks("otherwise(0, 0): eight that are no more", () -> p.otherwise(0, 0), 8);
        check.asks("otherwise(0, 1)", () -> p.otherwise(0, 1), 0);

        begin("OTHERWISE (place, WIDE, HIGH: now as they are now, then as they were)", 16, 16, 0, 20);
        check.items(1, 1, 1, 2, 2);
        p.lays(0, 4, 4);
        p.keeps(0);
        p.becomes(0, 1, 2);
        check.asks("otherwise(0, 0): WIDE and HIGH 1", () -> p.otherwise(0, 0), 1);
        p.sets(3, 10);
        check.asks("otherwise(0, 0): another RANK, but alike", () -> p.otherwise(0, 0), 0);
        p.becomes(0, 0, 0);
        check.asks("otherwise(0, 0): WIDE 4", () -> p.otherwise(0, 0), 1);
        p.becomes(0, 2, 1);
        check.asks("otherwise(0, 0): another SORT, but alike", () -> p.otherwise(0, 0), 0);
        p.lays(0, 4, 5);
        check.asks("otherwise(0, 0): y", () -> p.otherwise(0, 0), 1);
        p.lays(0, 5, 4);
        check.asks("otherwise(0, 0): x", () -> p.otherwise(0, 0), 1);
        p.sheet(6, 6);
        p.takes(0);
        check.asks("otherwise(0, 0): another W and H, but alike", () -> p.otherwise(0, 0), 0);
    }

    private static void otherwiseOfOblongs() {
        begin("OTHERWISE (WIDE, HIGH), of those that are not as wide as high", 16, 16, 0, 40);
        p.item(0, 1, 2, 1);
        p.item(1, 1, 1, 2);
        p.lays(0, 0, 0);
        p.lays(1, 9, 9);
        check.size(0, 8, 4);
        check.size(1, 2, 4);
        for (int s = 0; s <= 2; s++) {
            p.keeps(s);
        }
        for (int t = 0; t <= 2; t++) {
            int s = t;
            check.asks("otherwise(" + s + ", 0): alike", () -> p.otherwise(s, 0), 0);
            p.becomes(1, 2, 2);
            check.asks("otherwise(" + s + ", 0): WIDE", () -> p.otherwise(s, 0), 1);
            p.becomes(1, 2, 1);
            p.sets(2, 45);
            check.size(0, 9, 5);
            check.size(1, 2, 5);
            check.asks("otherwise(" + s + ", 0): HIGH, and both", () -> p.otherwise(s, 0), 2);
            p.sets(2, 40);
        }
        p.sets(2, 20);
        p.keeps(1);
        check.size(0, 4, 2);
        p.sets(2, 40);
        p.becomes(0, 0, 1);
        p.becomes(0, 2, 1);
        p.becomes(0, 3, 2);
        p.off(1);
        check.size(0, 2, 4);
        check.asks("otherwise(1, 0): as high as it was wide, as wide as it was high", () -> p.otherwise(1, 0), 2);
    }

    private static void far() {
        begin("FAR: of those that lie both times how far x and y are apart, without signs, together", 16, 16, 0, 10);
        check.items(2, 0, 1, 1, 1);
        p.lays(0, 0, 15);
        p.lays(1, 15, 0);
        p.keeps(0);
        check.asks("otherwise(0, 1)", () -> p.otherwise(0, 1), 0);
        p.lays(0, 15, 14);
        check.asks("otherwise(0, 1): 15 and 1", () -> p.otherwise(0, 1), 16);
        p.lays(1, 0, 15);
        p.keeps(1);
        check.asks("otherwise(0, 1): 15 and 15, too", () -> p.otherwise(0, 1), 46);
        p.off(0);
        check.asks("otherwise(0, 1): 0 lies not now", () -> p.otherwise(0, 1), 30);
        p.keeps(2);
        p.takes(0);
        check.asks("otherwise(2, 1): 0 lay not then", () -> p.otherwise(2, 1), 30);
        check.asks("otherwise(1, 1): the other way round", () -> p.otherwise(1, 1), 46);
        p.off(1);
        check.asks("otherwise(2, 1): none lies both times", () -> p.otherwise(2, 1), 0);
        check.asks("otherwise(2, 0)", () -> p.otherwise(2, 0), 2);
    }

    // ---- TIDYING

    private static void staysAtTheEdges() {
        begin("stays: the set (bits) that would STAY", 16, 16, 0, 10);
        check.asks("stays(): no ITEM", () -> p.stays(), 0);
        check.items(8, 0, 1, 1, 1);
        check.asks("stays(): none lies", () -> p.stays(), 0);
        check.changes("tidies(): none lies", () -> p.tidies(), 0);
        for (int k = 0; k < 8; k++) {
            p.lays(k, 2 * k, 15);
        }
        check.asks("stays(): all", () -> p.stays(), 255);
        check.changes("tidies(): all", () -> p.tidies(), 8);
        check.place(7, 14, 15);
        p.sets(1, 1);
        check.asks("stays(): all, with a GUTTER", () -> p.stays(), 255);
        p.off(3);
        check.asks("stays(): all that lie", () -> p.stays(), 247);
        p.sets(1, 2);
        check.asks("stays(): those with two between them", () -> p.stays(), 1 + 4 + 16 + 64);
        p.sheet(15, 15);
        check.asks("stays(): none", () -> p.stays(), 0);
        check.changes("tidies(): none stays, all are laid anew", () -> p.tidies(), 0);
        check.due("all(1)", p.all(1), 0);
        check.due("all(0)", p.all(0), 247);
        check.place(3, NONE, NONE);
    }

    private static void staysOfLikeOnes() {
        for (int step : new int[] {1, 4}) {
            begin("a set STAYS: .. of like ones the least as bits", 16, 16, 0, 10);
            check.items(8, 0, 1, 1, 1);
            for (int i = 0; i < 4; i++) {
                int k = step == 1 ? 2 * i : i;
                p.lays(k, 4 * i, 7);
                p.lays(k + step, 4 * i + 1, 7);
            }
            check.asks("stays(): all are apart", () -> p.stays(), 255);
            p.sets(1, 1);
            check.asks("stays(): the lesser one of each two", () -> p.stays(), step == 1 ? 0x55 : 0x0f);
            p.becomes(7, 2, 2);
            check.asks("stays(): the greatest WEIGHT", () -> p.stays(), step == 1 ? 0x95 : 0x87);
        }

        begin("a set STAYS: .. of the greatest WEIGHT together, of like ones of the most ITEMS", 16, 16, 0, 20);
        p.sets(3, 10);
        check.items(1, 0, 1, 3, 1);
        check.items(3, 0, 1, 1, 1);
        // 0 is 6 by 2, as heavy as 1, 2 and 3 together.
        p.lays(0, 4, 4);
        p.lays(1, 2, 4);
        p.lays(2, 10, 4);
        p.lays(3, 5, 6);
        p.sets(1, 1);
        check.asks("stays(): three are as heavy as one", () -> p.stays(), 14);
        p.becomes(3, 1, 2);
        check.asks("stays(): one is heavier than three", () -> p.stays(), 1);
        p.becomes(3, 2, 2);
        check.asks("stays(): three are heavier", () -> p.stays(), 14);
    }

    private static void tidiesNearest() {
        begin("each of these is laid where it FITS nearest to where it was, of like ones the first place", 16, 16, 0, 10);
        check.items(2, 0, 1, 1, 1);
        p.lays(0, 8, 8);
        p.lays(1, 9, 8);
        p.becomes(0, 2, 2);
        check.asks("stays()", () -> p.stays(), 1);
        check.changes("tidies(): of three places next to it the first, above", () -> p.tidies(), 1);
        check.place(0, 8, 8);
        check.place(1, 9, 7);
        p.lays(1, 9, 9);
        p.becomes(0, 2, 1);
        p.lays(1, 9, 8);
        p.becomes(0, 2, 3);
        p.sets(4, 0);
        check.changes("tidies(): above and below are as near", () -> p.tidies(), 1);
        check.place(1, 9, 7);
        p.becomes(0, 2, 1);
        p.lays(0, 8, 0);
        p.lays(1, 9, 0);
        p.becomes(0, 2, 3);
        check.changes("tidies(): at the upper edge below alone", () -> p.tidies(), 1);
        check.place(1, 9, 1);

        begin("nearest to where it was (x and y apart, without signs, together)", 16, 16, 0, 10);
        check.items(1, 0, 1, 1, 1);
        p.lays(0, 15, 15);
        p.sheet(6, 8);
        check.changes("tidies(): the nearest corner", () -> p.tidies(), 0);
        check.place(0, 5, 7);
        p.sets(0, 2);
        check.changes("tidies(): inside the MARGIN", () -> p.tidies(), 0);
        check.place(0, 3, 5);
        p.sheet(16, 16);
        p.sets(0, 0);
        p.lays(0, 8, 3);
        p.sets(4, 2);
        check.changes("tidies(): on a LINE", () -> p.tidies(), 1);
        check.place(0, 8, 3);
        p.sets(4, 3);
        check.changes("tidies(): LINES 0, 5 and 10", () -> p.tidies(), 0);
        check.place(0, 10, 3);
        p.sets(4, 0);
        p.lays(0, 4, 3);
        p.sets(4, 2);
        check.changes("tidies(): LINES 0 and 8 are as near", () -> p.tidies(), 0);
        check.place(0, 0, 3);
    }

    private static void tidiesAtTheUpperEdge() {
        begin("nearest to where it was, on a wide sheet, in the first row", 16, 6, 0, 60);
        check.items(1, 0, 1, 1, 1);
        check.items(1, 0, 6, 1, 1);
        p.lays(0, 0, 0);
        p.lays(1, 6, 0);
        p.becomes(0, 2, 2);
        check.changes("tidies()", () -> p.tidies(), 1);
        check.place(0, 0, 0);
        check.place(1, 12, 0);
        p.lays(1, 15, 5);
        p.sets(1, 2);
        check.changes("tidies(), both stay", () -> p.tidies(), 2);
        p.sheet(15, 6);
        check.changes("tidies(): one CELL to the left", () -> p.tidies(), 1);
        check.place(1, 14, 5);
        p.sheet(14, 6);
        check.changes("tidies(): it would be too near", () -> p.tidies(), 1);
        check.place(1, -1, -1);
    }

    private static void tidiesInOrder() {
        begin("then, by RANK, of like RANK by number, each of these is laid", 16, 16, 0, 10);
        check.items(4, 0, 6, 1, 1);
        for (int k = 0; k < 4; k++) {
            p.lays(k, 15, 3 + 4 * k);
        }
        p.becomes(2, 1, 1);
        p.swaps(0, 1);
        p.sheet(14, 6);
        p.sets(1, 2);
        check.asks("stays(): none is on THE SHEET", () -> p.stays(), 0);
        check.changes("tidies()", () -> p.tidies(), 0);
        // 2 was at 15, 11; 0 at 15, 7; 1 at 15, 3; 3 at 15, 15.
        check.place(2, 13, 5);
        check.place(0, 13, 2);
        check.place(1, 10, 3);
        check.place(3, 7, 5);
    }

    private static void tidiesWithoutPlace() {
        begin("TIDYING: it lies nowhere, if there is none", 16, 16, 0, 40);
        p.sets(3, 10);
        check.items(4, 0, 1, 1, 1);
        p.item(1, 6, 1, 4);
        p.lays(0, 0, 0);
        p.lays(1, 4, 0);
        p.lays(2, 8, 8);
        p.lays(4, 3, 12);
        p.sheet(7, 7);
        check.asks("stays()", () -> p.stays(), 1);
        check.changes("tidies()", () -> p.tidies(), 1);
        check.due("all(0): a narrow one has its place, one that lay nowhere stays so", p.all(0), 17);
        check.place(4, 4, 3);
        check.due("white(0)", p.white(0), 49 - 16 - 4);
    }
}
