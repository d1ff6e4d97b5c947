/** Promises 10 to 18: where the items lie. */
public final class LyingTest {
    private static final Check check = new Check();
    private static PosterSheet p;

    public static void main(String[] args) {
        lays();
        off();
        swaps();
        fits();
        fitsBesideOthers();
        fitsOnLines();
        free();
        best();
        packs();
        tidies();
        stays();
        staysOfLikeSets();
        at();
        check.end();
    }

    private static void lays() {
        p = check.begin("promise 10");
        p.item(0, 1, 1, 1);
        p.item(0, 2, 1, 1);
        check.changes("lays(0, 1, 1)", () -> p.lays(0, 1, 1), 0);
        check.place(0, 1, 1);
        check.refused("lays(1, 4, 4): it does not FIT there", () -> p.lays(1, 4, 4), -3);
        check.place(1, -1, -1);
        check.due("lays(0, 2, 2), over where it lay", p.lays(0, 2, 2), 1);
        check.place(0, 2, 2);
        check.due("lays(0, 2, 2) again", p.lays(0, 2, 2), 1);
        check.due("told(13)", p.told(13), 5);
        check.due("lays(1, 6, 2)", p.lays(1, 6, 2), 0);
        check.refused("lays(0, 0, 1): in the MARGIN", () -> p.lays(0, 0, 1), -3);
        check.refused("lays(0, 15, 15): not on THE SHEET", () -> p.lays(0, 15, 15), -3);
        int[][] bad = {{-1, 1, 1}, {2, 1, 1}, {0, -1, 1}, {0, 16, 1}, {0, 1, -1}, {0, 1, 16}, {2, 0, 16}};
        for (int[] b : bad) {
            check.refused("lays not as told", () -> p.lays(b[0], b[1], b[2]), -2);
        }
        check.place(0, 2, 2);
    }

    private static void off() {
        p = check.begin("promise 11");
        p.item(0, 3, 1, 1);
        p.item(0, 3, 1, 1);
        p.lays(0, 1, 1);
        check.refused("off(1), it lies nowhere", () -> p.off(1), -3);
        p.lays(1, 5, 5);
        check.changes("off(0)", () -> p.off(0), 1);
        check.place(0, -1, -1);
        check.place(1, 5, 5);
        check.refused("off(0), it lies nowhere", () -> p.off(0), -3);
        check.due("off(1)", p.off(1), 0);
        check.refused("off(-1)", () -> p.off(-1), -2);
        check.refused("off(2)", () -> p.off(2), -2);
    }

    private static void swaps() {
        p = check.begin("promise 12");
        p.item(0, 1, 1, 1);
        p.item(0, 1, 1, 1);
        p.item(0, 1, 2, 1);
        check.refused("swaps(0, 1), both nowhere", () -> p.swaps(0, 1), -3);
        p.lays(0, 1, 2);
        p.lays(1, 6, 7);
        check.changes("swaps(0, 1)", () -> p.swaps(0, 1), 2);
        check.place(0, 6, 7);
        check.place(1, 1, 2);
        check.changes("swaps(2, 0): it sticks into the MARGIN", () -> p.swaps(2, 0), 0);
        check.place(2, 6, 7);
        check.place(0, -1, -1);
        check.due("swaps(0, 1)", p.swaps(0, 1), 1);
        check.place(0, 1, 2);
        check.due("swaps(1, 2)", p.swaps(1, 2), 1);
        check.due("swaps(2, 0)", p.swaps(2, 0), 1);
        check.place(2, 1, 2);
        check.refused("swaps(0, 0)", () -> p.swaps(0, 0), -2);
        check.refused("swaps(1, 1)", () -> p.swaps(1, 1), -2);
        check.refused("swaps(-1, 0)", () -> p.swaps(-1, 0), -2);
        check.refused("swaps(0, 3)", () -> p.swaps(0, 3), -2);
        check.refused("swaps(3, 3)", () -> p.swaps(3, 3), -2);

        p = check.begin("promise 12, beside one another");
        p.item(0, 1, 2, 1);
        p.item(0, 1, 1, 1);
        p.lays(0, 1, 1);
        p.lays(1, 1, 5);
        p.sheet(16, 16);
        check.due("swaps: both FIT", p.swaps(0, 1), 2);
        p.sheet(8, 16);
        check.due("all(1)", p.all(1), 1);
        check.due("swaps: one FITS", p.swaps(0, 1), 1);
    }

    private static void fits() {
        p = check.begin("promise 13");
        p.item(0, 1, 1, 1);
        int[][] corners = {{1, 1}, {7, 1}, {1, 7}, {7, 7}};
        int[][] beyond = {{0, 1}, {1, 0}, {8, 1}, {1, 8}, {15, 15}, {0, 0}};
        for (int[] c : corners) {
            check.asks("fits in a corner", () -> p.fits(0, c[0], c[1]), 1);
        }
        for (int[] c : beyond) {
            check.asks("fits beyond", () -> p.fits(0, c[0], c[1]), 0);
        }
        int[][] bad = {{-1, 1, 1}, {1, 1, 1}, {0, -1, 1}, {0, 16, 1}, {0, 1, -1}, {0, 1, 16}};
        for (int[] b : bad) {
            check.refused("fits not as told", () -> p.fits(b[0], b[1], b[2]), -2);
        }
        for (int margin = 0; margin <= 2; margin++) {
            p.sets(0, margin);
            p.sheet(9, 11);
            int least = margin;
            check.asks("fits at the MARGIN", () -> p.fits(0, least, least), 1);
            check.asks("fits at the far MARGIN", () -> p.fits(0, 5 - least, 7 - least), 1);
            check.asks("fits too far right", () -> p.fits(0, 6 - least, 7 - least), 0);
            check.asks("fits too far down", () -> p.fits(0, 5 - least, 8 - least), 0);
        }
        p.sheet(6, 6);
        p.sets(2, 80);
        check.asks("fits, larger than THE SHEET", () -> p.fits(0, 0, 0), 0);
    }

    private static void fitsBesideOthers() {
        for (int g = 0; g <= 2; g++) {
            int gutter = g;
            p = check.begin("promise 13, GUTTER " + gutter);
            p.sheet(16, 16);
            p.item(0, 3, 1, 1);
            p.item(0, 2, 1, 1);
            p.lays(0, 7, 7);
            p.sets(1, gutter);
            // Item 0 covers 7, 7 to 8, 8; item 1 is 3 by 3.
            check.asks("fits to the left", () -> p.fits(1, 4 - gutter, 7), 1);
            check.asks("fits too near to the left", () -> p.fits(1, 5 - gutter, 7), 0);
            check.asks("fits to the right", () -> p.fits(1, 9 + gutter, 7), 1);
            check.asks("fits too near to the right", () -> p.fits(1, 8 + gutter, 7), 0);
            check.asks("fits above", () -> p.fits(1, 7, 4 - gutter), 1);
            check.asks("fits too near above", () -> p.fits(1, 7, 5 - gutter), 0);
            check.asks("fits below", () -> p.fits(1, 7, 9 + gutter), 1);
            check.asks("fits too near below", () -> p.fits(1, 7, 8 + gutter), 0);
            check.asks("fits corner to corner", () -> p.fits(1, 4 - gutter, 4 - gutter), 1);
            check.asks("fits far to the side", () -> p.fits(1, 4 - gutter, 6), 1);
            check.asks("fits over it", () -> p.fits(1, 6, 6), 0);
            check.asks("fits where it lies itself", () -> p.fits(0, 7, 7), 1);
            check.asks("fits over itself", () -> p.fits(0, 8, 8), 1);
        }
    }

    private static void fitsOnLines() {
        p = check.begin("promise 13, LINES");
        p.item(0, 6, 1, 1);
        p.sets(4, 3);
        for (int i = 0; i <= 15; i++) {
            int x = i;
            check.due("fits(0, " + x + ", 1)", p.fits(0, x, 1), x == 1 || x == 4 || x == 7 ? 1 : 0);
        }
        p.lays(0, 4, 4);
        p.sets(0, 2);
        check.due("of(0, 9): no LINE is at 4, but 2, 4 and 7", p.of(0, 9), 1);
        p.sets(0, 0);
        check.due("of(0, 9): LINES 0, 4, 8", p.of(0, 9), 1);
        p.sheet(10, 12);
        check.due("of(0, 9): LINES 0, 3, 6", p.of(0, 9), 0);
        p.sets(4, 0);
        check.due("of(0, 9): no LINES", p.of(0, 9), 1);
    }

    private static void free() {
        p = check.begin("promise 14");
        p.item(0, 1, 1, 1);
        check.asks("free(0, 0)", () -> p.free(0, 0), 17);
        check.asks("free(0, 2)", () -> p.free(0, 2), 119);
        check.asks("free(0, 3)", () -> p.free(0, 3), 49);
        p.lays(0, 1, 1);
        check.asks("free(0, 0), where it lies itself", () -> p.free(0, 0), 17);
        check.asks("free(0, 3), wherever it lies", () -> p.free(0, 3), 49);
        p.item(0, 1, 1, 1);
        check.asks("free(1, 0)", () -> p.free(1, 0), 21);
        check.asks("free(1, 2)", () -> p.free(1, 2), 119);
        check.asks("free(1, 3)", () -> p.free(1, 3), 33);
        p.sheet(6, 6);
        for (int w = 0; w <= 3; w++) {
            int what = w;
            check.asks("free(1, " + what + "), no place", () -> p.free(1, what), what == 3 ? 0 : PosterSheet.NONE);
            check.refused("free(2, " + what + ")", () -> p.free(2, what), -2);
            check.refused("free(-1, " + what + ")", () -> p.free(-1, what), -2);
        }
        check.refused("free(0, -1)", () -> p.free(0, -1), -2);
        check.refused("free(0, 4)", () -> p.free(0, 4), -2);
    }

    private static void best() {
        p = check.begin("promise 14, BEST");
        p.item(0, 1, 1, 1);
        check.asks("free(0, 1): in the middle", () -> p.free(0, 1), 16 * 4 + 4);
        p.sheet(11, 11);
        check.asks("free(0, 1): of four like ones the first", () -> p.free(0, 1), 16 * 3 + 3);
        p.sheet(12, 12);
        p.lays(0, 1, 1);
        check.asks("free(0, 1): wherever it lies", () -> p.free(0, 1), 16 * 4 + 4);
        p.item(0, 1, 1, 1);
        check.asks("free(1, 1): across from the other one", () -> p.free(1, 1), 16 * 7 + 7);
        p.item(0, 6, 1, 1);
        p.lays(1, 4, 7);
        check.asks("free(2, 1): a light one", () -> p.free(2, 1), 16 * 5 + 10);
    }

    private static void packs() {
        p = check.begin("promise 15");
        check.changes("packs() of none", () -> p.packs(), 0);
        p.item(0, 3, 1, 1);
        p.item(0, 1, 1, 1);
        p.item(0, 3, 1, 1);
        p.lays(0, 9, 9);
        check.changes("packs()", () -> p.packs(), 3);
        check.place(1, 1, 1);
        check.place(0, 5, 1);
        check.place(2, 7, 1);
        p.sheet(6, 6);
        check.changes("packs(), no place for two", () -> p.packs(), 1);
        check.place(1, 1, 1);
        check.place(0, -1, -1);
        check.place(2, -1, -1);
        p.becomes(1, 1, 6);
        check.changes("packs() by the new RANK", () -> p.packs(), 3);
        check.place(0, 1, 1);
        check.place(2, 3, 1);
        check.place(1, 1, 3);
    }

    private static void tidies() {
        p = check.begin("promise 16");
        check.changes("tidies() of none", () -> p.tidies(), 0);
        p.item(0, 1, 1, 1);
        p.item(0, 3, 1, 1);
        p.item(0, 6, 1, 1);
        p.item(0, 3, 1, 1);
        p.lays(0, 1, 1);
        p.lays(1, 5, 1);
        p.lays(2, 7, 2);
        check.changes("tidies(), all FIT", () -> p.tidies(), 3);
        check.place(1, 5, 1);
        check.place(3, -1, -1);
        p.sets(1, 1);
        check.changes("tidies(), one is too near to both others", () -> p.tidies(), 2);
        check.place(0, 1, 1);
        // As near as 9, 1 would be 6, 4, a later place.
        check.place(1, 9, 1);
        check.place(2, 7, 2);
        check.place(3, -1, -1);
        p.sheet(6, 6);
        check.changes("tidies(), two have no place", () -> p.tidies(), 1);
        check.place(0, 1, 1);
        check.place(1, -1, -1);
        check.place(2, -1, -1);

        p = check.begin("promise 16, nearest");
        p.item(0, 6, 1, 1);
        p.item(0, 6, 1, 1);
        p.lays(0, 5, 5);
        p.lays(1, 6, 6);
        p.becomes(0, 1, 5);
        p.sets(2, 80);
        p.becomes(0, 1, 3);
        // Item 0 covers 5, 5 to 8, 8 now (a SIDE of 3.56), item 1 is one CELL within it.
        check.due("of(0, 6)", p.of(0, 6), 4);
        check.due("of(1, 6)", p.of(1, 6), 1);
        check.changes("tidies()", () -> p.tidies(), 1);
        check.place(0, 5, 5);
        // As near as 6, 4 is 4, 6, a later place; 9, 6 and 6, 9 are farther.
        check.place(1, 6, 4);

        p = check.begin("promise 16, by RANK, of like RANK by number");
        for (int k = 0; k < 4; k++) {
            p.item(0, 6, 1, 1);
        }
        p.lays(0, 1, 1);
        p.lays(1, 1, 2);
        p.lays(2, 1, 3);
        p.lays(3, 1, 4);
        p.becomes(3, 1, 5);
        p.sets(0, 2);
        check.due("stays()", p.stays(), 0);
        check.changes("tidies()", () -> p.tidies(), 0);
        check.place(3, 2, 4);
        check.place(0, 2, 2);
        check.place(1, 3, 2);
        check.place(2, 2, 3);
    }

    private static void stays() {
        p = check.begin("promise 17");
        p.sheet(16, 16);
        p.item(0, 3, 1, 1);
        p.item(0, 3, 2, 1);
        p.item(0, 3, 1, 1);
        p.item(0, 3, 1, 1);
        check.asks("stays() of none", () -> p.stays(), 0);
        p.lays(0, 1, 1);
        p.lays(1, 3, 1);
        p.lays(2, 7, 1);
        check.asks("stays(), all", () -> p.stays(), 7);
        p.sets(1, 1);
        // The middle one weighs as much as both others together, 32; two are more than one.
        check.due("of(0, 8)", p.of(0, 8), 16);
        check.due("of(1, 8)", p.of(1, 8), 32);
        check.asks("stays(): of like ones the most ITEMS", () -> p.stays(), 5);
        p.becomes(2, 1, 4);
        check.asks("stays(): the greatest WEIGHT", () -> p.stays(), 2);
        p.lays(3, 1, 6);
        check.asks("stays(): the fourth one, too", () -> p.stays(), 10);
        p.sets(0, 2);
        check.asks("stays(): it lies in the MARGIN", () -> p.stays(), 0);
    }

    private static void staysOfLikeSets() {
        p = check.begin("promise 17, like sets");
        p.sheet(16, 16);
        for (int k = 0; k < 4; k++) {
            p.item(0, 3, 1, 1);
        }
        p.lays(3, 1, 1);
        p.lays(1, 3, 1);
        p.lays(2, 9, 9);
        p.lays(0, 9, 11);
        p.sets(1, 1);
        check.asks("stays(): the least as bits", () -> p.stays(), 3);
        p.off(0);
        check.asks("stays(): the least as bits", () -> p.stays(), 6);
        p.sets(1, 0);
        check.asks("stays()", () -> p.stays(), 14);
        p.sets(4, 2);
        // LINES 1 and 8.
        check.asks("stays(): on LINES alone", () -> p.stays(), 8);
    }

    private static void at() {
        p = check.begin("promise 18");
        p.item(0, 1, 1, 1);
        p.item(0, 1, 1, 1);
        p.lays(1, 2, 3);
        check.asks("at(2, 3)", () -> p.at(2, 3), 1);
        check.asks("at(5, 6)", () -> p.at(5, 6), 1);
        check.asks("at(6, 6)", () -> p.at(6, 6), PosterSheet.NONE);
        check.asks("at(5, 7)", () -> p.at(5, 7), PosterSheet.NONE);
        check.asks("at(1, 3)", () -> p.at(1, 3), PosterSheet.NONE);
        check.asks("at(2, 2)", () -> p.at(2, 2), PosterSheet.NONE);
        p.lays(0, 6, 3);
        p.becomes(1, 2, 2);
        check.asks("at(6, 3): the least one", () -> p.at(6, 3), 0);
        check.asks("at(11, 11)", () -> p.at(11, 11), PosterSheet.NONE);
        check.refused("at(12, 3)", () -> p.at(12, 3), -2);
        check.refused("at(3, 12)", () -> p.at(3, 12), -2);
        check.refused("at(-1, 3)", () -> p.at(-1, 3), -2);
        check.refused("at(3, -1)", () -> p.at(3, -1), -2);
        p.sheet(16, 8);
        check.asks("at(12, 3)", () -> p.at(12, 3), PosterSheet.NONE);
        check.refused("at(3, 8)", () -> p.at(3, 8), -2);
        check.refused("at(16, 3)", () -> p.at(16, 3), -2);
    }
}
