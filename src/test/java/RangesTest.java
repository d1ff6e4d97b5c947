/**
 * Of each number of each call the least and the greatest that is taken, and the ones next to them, with every
 * choice of the other numbers: BAD, just if one of them is not as told.
 */
public final class RangesTest {
    private static final int MOST = Integer.MAX_VALUE;
    private static final int W = 13;
    private static final int H = 8;
    private static final int ITEMS = 5;
    private static int asked;
    private static int wrong;

    public static void main(String[] args) {
        taken("sheet", 6, 16, 6, 16);
        int[][] settings = {{0, 2}, {0, 2}, {10, 80}, {10, 30}, {0, 6}};
        for (int what = 0; what < 5; what++) {
            taken("sets", what, what, settings[what][0], settings[what][1]);
        }
        taken("item", 0, 1, 1, 6, 1, 4, 1, 4);
        taken("drops", 0, ITEMS - 1);
        int[][] traits = {{0, 1}, {1, 6}, {1, 4}, {1, 4}};
        for (int what = 0; what < 4; what++) {
            taken("becomes", 0, ITEMS - 1, what, what, traits[what][0], traits[what][1]);
        }
        taken("of", 0, ITEMS - 1, 0, 9);
        taken("side", 1, 6);
        taken("line", 0, MOST);
        taken("lays", 0, ITEMS - 1, 0, 15, 0, 15);
        taken("off", 0, ITEMS - 1);
        taken("swaps", 0, 0, 1, ITEMS - 1);
        taken("swaps", 1, ITEMS - 1, 0, 0);
        taken("fits", 0, ITEMS - 1, 0, 15, 0, 15);
        taken("free", 0, ITEMS - 1, 0, 3);
        taken("at", 0, W - 1, 0, H - 1);
        taken("white", 0, 5);
        taken("centre", 0, 2);
        taken("all", 0, 3);
        taken("sorted", 0, 1, 0, MOST);
        taken("keeps", 0, 2);
        taken("takes", 0, 2);
        taken("otherwise", 0, 2, 0, 1);
        taken("type", 0, 127);
        taken("told", 0, 13);
        System.out.println(asked + " answers, " + wrong + " not as due");
        if (wrong != 0) {
            System.exit(1);
        }
    }

    /** 0 to 4 lie, all three sheets are KEPT. */
    private static PosterSheet make() {
        PosterSheet sheet = new PosterSheet();
        sheet.sheet(W, H);
        sheet.sets(2, 20);
        for (int k = 0; k < ITEMS; k++) {
            sheet.item(k % 2, 1 + k, 2, 2);
        }
        sheet.packs();
        for (int s = 0; s <= 2; s++) {
            sheet.keeps(s);
        }
        return sheet;
    }

    /** The least and the greatest of each number in turn. */
    private static void taken(String name, int... ranges) {
        tryAll(name, ranges, new Object[ranges.length / 2], 0, true);
    }

    private static void tryAll(String name, int[] ranges, Object[] numbers, int from, boolean asTold) {
        if (from == numbers.length) {
            tryOne(name, numbers, asTold);
            return;
        }
        int least = ranges[2 * from];
        int most = ranges[2 * from + 1];
        for (int v : new int[] {least - 1, least, most, most == MOST ? most : most + 1}) {
            // A range of one number is a choice, not an edge: next to it others may be taken.
            boolean is = v >= least && v <= most;
            if (is || least != most) {
                numbers[from] = v;
                tryAll(name, ranges, numbers, from + 1, asTold && is);
            }
        }
    }

    private static void tryOne(String name, Object[] numbers, boolean asTold) {
        PosterSheet sheet = make();
        boolean refused = Calls.answer(sheet, name, numbers) == PosterSheet.BAD;
        boolean counted = sheet.told(0) == 1;
        asked++;
        if (refused == asTold || counted == asTold) {
            wrong++;
            System.out.println(Calls.told(name, numbers) + (asTold ? " is as told" : " is not as told")
                + (refused ? ", refused" : ", taken") + (counted ? ", counted" : ", not counted"));
        }
    }
}
