/** Promises 1 to 9: the sheet and its items. */
public final class SheetAndItemsTest {
    private static final Check check = new Check();
    private static PosterSheet p;

    public static void main(String[] args) {
        newObject();
        sheet();
        sets();
        item();
        drops();
        becomes();
        of();
        sizesAtTheEdges();
        side();
        line();
        check.end();
    }

    private static void newObject() {
        p = check.begin("promise 1");
        int[] told = {0, 0, 0, 0, 0, 12, 12, 1, 0, 40, 15, 0, 0, 0};
        for (int what = 0; what < told.length; what++) {
            check.due("told(" + what + ")", p.told(what), told[what]);
        }
        check.due("all(0)", p.all(0), 0);
        check.due("all(2)", p.all(2), 0);
        check.due("stays()", p.stays(), 0);
        check.due("white(0)", p.white(0), 144);
        for (int s = 0; s <= 2; s++) {
            check.due("takes(" + s + ")", p.takes(s), PosterSheet.NO);
        }
        check.due("back()", p.back(), PosterSheet.NO);
    }

    private static void sheet() {
        p = check.begin("promise 2");
        check.changes("sheet(6, 16)", () -> p.sheet(6, 16), 1212);
        check.due("told(5)", p.told(5), 6);
        check.due("told(6)", p.told(6), 16);
        check.changes("sheet(16, 6)", () -> p.sheet(16, 6), 616);
        check.changes("sheet(16, 6)", () -> p.sheet(16, 6), 1606);
        check.refused("sheet(5, 12)", () -> p.sheet(5, 12), -2);
        check.refused("sheet(17, 12)", () -> p.sheet(17, 12), -2);
        check.refused("sheet(12, 5)", () -> p.sheet(12, 5), -2);
        check.refused("sheet(12, 17)", () -> p.sheet(12, 17), -2);
        check.refused("sheet(least, most)", () -> p.sheet(Integer.MIN_VALUE, Integer.MAX_VALUE), -2);

        p = check.begin("promise 2, where ITEMS lie");
        p.item(0, 1, 1, 1);
        p.lays(0, 7, 7);
        check.changes("sheet(6, 6)", () -> p.sheet(6, 6), 1212);
        check.due("of(0, 4)", p.of(0, 4), 7);
        check.due("of(0, 5)", p.of(0, 5), 7);
        check.due("of(0, 9)", p.of(0, 9), 0);
        check.due("white(0)", p.white(0), 36);
        check.changes("sheet(8, 9)", () -> p.sheet(8, 9), 606);
        check.due("white(0): two CELLS of it are on THE SHEET", p.white(0), 70);
    }

    private static void sets() {
        int[] least = {0, 0, 10, 10, 0};
        int[] most = {2, 2, 80, 30, 6};
        int[] first = {1, 0, 40, 15, 0};
        for (int w = 0; w <= 4; w++) {
            int what = w;
            p = check.begin("promise 3, what " + what);
            p.item(0, 1, 1, 1);
            p.lays(0, 3, 3);
            check.changes("sets to the least", () -> p.sets(what, least[what]), first[what]);
            check.due("told", p.told(7 + what), least[what]);
            check.changes("sets to the most", () -> p.sets(what, most[what]), least[what]);
            check.due("told", p.told(7 + what), most[what]);
            check.changes("sets to the same", () -> p.sets(what, most[what]), most[what]);
            check.refused("sets below", () -> p.sets(what, least[what] - 1), -2);
            check.refused("sets above", () -> p.sets(what, most[what] + 1), -2);
            check.refused("sets far below", () -> p.sets(what, Integer.MIN_VALUE), -2);
            check.due("of(0, 4)", p.of(0, 4), 3);
            check.due("of(0, 5)", p.of(0, 5), 3);
        }
        check.refused("sets(-1, 1)", () -> p.sets(-1, 1), -2);
        check.refused("sets(5, 1)", () -> p.sets(5, 1), -2);
        check.refused("sets(most, 1)", () -> p.sets(Integer.MAX_VALUE, 1), -2);
    }

    private static void item() {
        p = check.begin("promise 4");
        check.changes("item(0, 1, 1, 1)", () -> p.item(0, 1, 1, 1), 0);
        check.changes("item(1, 6, 4, 4)", () -> p.item(1, 6, 4, 4), 1);
        check.due("of(1, 4)", p.of(1, 4), PosterSheet.NONE);
        check.due("of(1, 5)", p.of(1, 5), PosterSheet.NONE);
        check.due("all(0)", p.all(0), 0);
        int[][] bad = {
            {-1, 1, 1, 1}, {2, 1, 1, 1}, {0, 0, 1, 1}, {0, 7, 1, 1},
            {0, 1, 0, 1}, {0, 1, 5, 1}, {0, 1, 1, 0}, {0, 1, 1, 5}, {1, 1, 1, Integer.MIN_VALUE},
        };
        for (int[] b : bad) {
            check.refused("item not as told", () -> p.item(b[0], b[1], b[2], b[3]), -2);
        }
        for (int k = 2; k < 8; k++) {
            check.due("item(0, 3, 2, 2)", p.item(0, 3, 2, 2), k);
        }
        check.due("told(4)", p.told(4), 8);
        check.refused("a ninth item", () -> p.item(0, 3, 2, 2), -4);
        check.refused("a ninth item not as told", () -> p.item(0, 7, 2, 2), -2);
        check.due("told(0)", p.told(0), 10);
        check.due("told(2)", p.told(2), 1);
        check.due("told(13)", p.told(13), 5);
        p.drops(7);
        check.due("an eighth item again", p.item(1, 2, 3, 4), 7);
        check.due("of(7, 4)", p.of(7, 4), PosterSheet.NONE);
    }

    private static void drops() {
        p = check.begin("promise 5");
        check.refused("drops(0) of none", () -> p.drops(0), -2);
        p.item(0, 1, 1, 2);
        check.changes("drops(0)", () -> p.drops(0), 0);
        check.refused("drops(0) of none again", () -> p.drops(0), -2);

        p = check.begin("promise 5, those behind it");
        p.item(0, 1, 1, 2);
        p.item(1, 3, 2, 3);
        p.item(0, 5, 4, 4);
        p.lays(0, 1, 1);
        p.lays(2, 6, 7);
        p.keeps(1);
        check.refused("drops(-1)", () -> p.drops(-1), -2);
        check.refused("drops(3)", () -> p.drops(3), -2);
        check.due("drops(1)", p.drops(1), 2);
        int[] second = {0, 5, 4, 4, 6, 7};
        for (int what = 0; what < second.length; what++) {
            check.due("of(1, " + what + ")", p.of(1, what), second[what]);
        }
        check.due("of(0, 3)", p.of(0, 3), 2);
        check.due("of(0, 4)", p.of(0, 4), 1);
        check.refused("of(2, 0)", () -> p.of(2, 0), -2);
        check.due("otherwise(1, 0): KEPT SHEETS stay as they are", p.otherwise(1, 0), 2);
        check.due("back()", p.back(), 4);
        check.due("told(4)", p.told(4), 3);
        check.due("of(2, 4)", p.of(2, 4), 6);
        check.due("drops(2)", p.drops(2), 2);
        check.due("drops(0)", p.drops(0), 1);
        check.due("of(0, 1)", p.of(0, 1), 3);
        check.due("of(0, 4)", p.of(0, 4), PosterSheet.NONE);
        check.due("drops(0)", p.drops(0), 0);
        check.due("all(0)", p.all(0), 0);

        p = check.begin("promise 5, of eight");
        for (int k = 0; k < 8; k++) {
            p.item(k % 2, 6 - k / 2, 1, 1);
        }
        check.due("drops(0)", p.drops(0), 7);
        check.due("of(6, 0)", p.of(6, 0), 1);
        check.due("drops(6)", p.drops(6), 6);
        check.due("of(5, 1)", p.of(5, 1), 3);
    }

    private static void becomes() {
        int[] least = {0, 1, 1, 1};
        int[] most = {1, 6, 4, 4};
        for (int w = 0; w <= 3; w++) {
            int what = w;
            p = check.begin("promise 6, what " + what);
            p.item(0, 2, 2, 2);
            p.lays(0, 2, 3);
            int first = p.of(0, what);
            check.due("what it is", first, what == 0 ? 0 : 2);
            check.changes("becomes the most", () -> p.becomes(0, what, most[what]), first);
            check.due("of", p.of(0, what), most[what]);
            check.changes("becomes the least", () -> p.becomes(0, what, least[what]), most[what]);
            check.due("of", p.of(0, what), least[what]);
            check.changes("becomes the same", () -> p.becomes(0, what, least[what]), least[what]);
            check.refused("becomes below", () -> p.becomes(0, what, least[what] - 1), -2);
            check.refused("becomes above", () -> p.becomes(0, what, most[what] + 1), -2);
            check.refused("no such item", () -> p.becomes(1, what, 1), -2);
            check.refused("no such item", () -> p.becomes(-1, what, 1), -2);
            check.due("of(0, 4)", p.of(0, 4), 2);
            check.due("of(0, 5)", p.of(0, 5), 3);
        }
        check.refused("becomes(0, -1, 1)", () -> p.becomes(0, -1, 1), -2);
        check.refused("becomes(0, 4, 1)", () -> p.becomes(0, 4, 1), -2);
    }

    private static void of() {
        p = check.begin("promise 7");
        p.item(0, 2, 3, 1);
        p.item(1, 3, 4, 3);
        int[] words = {0, 2, 3, 1, -1, -1, 8, 3, 120, 0};
        int[] picture = {1, 3, 4, 3, -1, -1, 2, 2, 16, 0};
        for (int w = 0; w <= 9; w++) {
            int what = w;
            check.asks("of(0, " + what + ")", () -> p.of(0, what), words[what]);
            check.asks("of(1, " + what + ")", () -> p.of(1, what), picture[what]);
        }
        p.lays(0, 2, 4);
        check.due("of(0, 4)", p.of(0, 4), 2);
        check.due("of(0, 5)", p.of(0, 5), 4);
        check.due("of(0, 9)", p.of(0, 9), 1);
        p.sets(0, 2);
        check.due("of(0, 9): x 2 to 9, two from each edge", p.of(0, 9), 1);
        p.sets(2, 45);
        check.due("of(0, 6): three sides of 3.0", p.of(0, 6), 9);
        check.due("of(0, 9): it sticks into the right MARGIN", p.of(0, 9), 0);
        p.becomes(0, 2, 1);
        check.due("of(0, 9)", p.of(0, 9), 1);
        p.lays(1, 5, 5);
        check.due("of(1, 9)", p.of(1, 9), 1);
        p.becomes(0, 2, 2);
        check.due("of(0, 9): one lies in the other", p.of(0, 9), 0);
        check.due("of(1, 9): one lies in the other", p.of(1, 9), 0);
        check.refused("of(-1, 0)", () -> p.of(-1, 0), -2);
        check.refused("of(2, 0)", () -> p.of(2, 0), -2);
        check.refused("of(0, -1)", () -> p.of(0, -1), -2);
        check.refused("of(0, 10)", () -> p.of(0, 10), -2);
        check.refused("of(most, least)", () -> p.of(Integer.MAX_VALUE, Integer.MIN_VALUE), -2);
    }

    private static void sizesAtTheEdges() {
        p = check.begin("promise 7, sizes");
        p.item(0, 1, 4, 1);
        p.item(1, 6, 1, 4);
        p.sets(2, 80);
        check.due("WIDE, the greatest", p.of(0, 6), 32);
        check.due("HIGH, the greatest", p.of(0, 7), 8);
        check.due("WEIGHT, the greatest", p.of(0, 8), 1536);
        p.sets(2, 10);
        p.sets(3, 30);
        check.due("WIDE, 1 at least", p.of(1, 6), 1);
        check.due("HIGH, 1 at least", p.of(1, 7), 1);
        check.due("WEIGHT, the least", p.of(1, 8), 1);
        p.sets(2, 25);
        check.due("HIGH of a SIDE of 2.5: and a half, cut", p.of(0, 7), 3);
        p.sets(2, 24);
        check.due("HIGH of a SIDE of 2.4", p.of(0, 7), 2);
        p.sets(2, 26);
        check.due("WIDE of 2.6 times 4, 10.4", p.of(0, 6), 10);
        p.becomes(0, 0, 1);
        p.becomes(0, 3, 3);
        check.due("WIDE of 2.6 times 4, by 3, 3.47", p.of(0, 6), 3);
        p.becomes(0, 3, 4);
        p.sets(2, 35);
        check.due("WIDE of 3.5 times 4, by 4", p.of(0, 6), 4);
    }

    private static void side() {
        p = check.begin("promise 8");
        for (int big = 10; big <= 80; big += 7) {
            for (int ratio = 10; ratio <= 30; ratio += 4) {
                p = check.begin("promise 8, BIG " + big + ", RATIO " + ratio);
                p.sets(2, big);
                p.sets(3, ratio);
                float side = (float) big / 10f;
                for (int rank = 1; rank <= 6; rank++) {
                    check.due("side(" + rank + ")", p.side(rank), Float.floatToIntBits(side));
                    side = side / ((float) ratio / 10f);
                }
            }
        }
        check.asks("side(1)", () -> p.side(1), Float.floatToIntBits(8.0f));
        check.refused("side(0)", () -> p.side(0), -2);
        check.refused("side(7)", () -> p.side(7), -2);
    }

    private static void line() {
        p = check.begin("promise 9");
        check.asks("line(0) of none", () -> p.line(0), PosterSheet.NONE);
        p.sets(4, 6);
        int[] lines = {1, 2, 4, 6, 7, 9};
        for (int k = 0; k < 6; k++) {
            check.due("line(" + k + ")", p.line(k), lines[k]);
        }
        check.asks("line(6)", () -> p.line(6), PosterSheet.NONE);
        check.asks("line(most)", () -> p.line(Integer.MAX_VALUE), PosterSheet.NONE);
        check.refused("line(-1)", () -> p.line(-1), -2);
        check.refused("line(least)", () -> p.line(Integer.MIN_VALUE), -2);
        p.sets(0, 2);
        p.sheet(6, 6);
        int[] narrow = {2, 2, 2, 3, 3, 3};
        for (int k = 0; k < 6; k++) {
            check.due("line(" + k + ")", p.line(k), narrow[k]);
        }
        p.sets(4, 1);
        check.due("line(0)", p.line(0), 2);
        check.due("line(1)", p.line(1), PosterSheet.NONE);
    }
}
