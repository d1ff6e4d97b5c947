import java.util.List;

/**
 * What is refused, promise by promise: with which number, which of two comes first, and that nothing is
 * changed by it but how often - neither what is now, nor THE TEXT, nor STATES, nor KEPT SHEETS.
 */
public final class RefusalsTest {
    private static final int LEAST = Integer.MIN_VALUE;
    private static final int MOST = Integer.MAX_VALUE;
    private static final int BAD = -2;
    private static final int NO = -3;
    private static final int FULL = -4;
    private static final String[] SITUATIONS = {"new", "some", "full"};
    private static int asked;
    private static int wrong;
    /** Which object the calls that follow are refused by. */
    private static int situation;

    public static void main(String[] args) {
        for (int i = 0; i < SITUATIONS.length; i++) {
            situation = i;
            numbersNotAsTold();
        }
        byANewObject();
        bySome();
        byAFullOne();
        System.out.println(asked + " answers, " + wrong + " not as due");
        if (wrong != 0) {
            System.exit(1);
        }
    }

    private static PosterSheet make() {
        PosterSheet sheet = new PosterSheet();
        if (situation == 1) {
            makeSome(sheet);
        }
        if (situation == 2) {
            makeFull(sheet);
        }
        return sheet;
    }

    /** Four ITEMS, 2 and 3 lie nowhere; 1 alone is KEPT; 9 by 11 CELLS; four STATES. */
    private static void makeSome(PosterSheet sheet) {
        sheet.item(0, 3, 1, 1);
        sheet.item(1, 2, 2, 1);
        sheet.item(0, 6, 1, 1);
        sheet.item(1, 1, 1, 1);
        Calls.type(sheet, "w 9 11;p 0 1 1;p 1 1 4;");
        sheet.reads();
        sheet.keeps(1);
        sheet.lays(0, 4, 1);
        sheet.back();
        sheet.clear();
        Calls.type(sheet, "i 0 6 1 1;b 30;p 4 7 9;");
    }

    /** Eight ITEMS, 120 bytes, three KEPT SHEETS, five STATES; 16 by 16 CELLS. */
    private static void makeFull(PosterSheet sheet) {
        for (int k = 0; k < 8; k++) {
            sheet.item(k % 2, 1 + k % 6, 1 + k % 3, 1 + k % 2);
        }
        Calls.type(sheet, "a;".repeat(60));
        sheet.keeps(0);
        sheet.sheet(16, 16);
        sheet.packs();
        sheet.keeps(1);
        sheet.off(3);
        sheet.sets(1, 1);
        sheet.keeps(2);
        sheet.swaps(0, 3);
        sheet.sets(2, 35);
    }

    private static void due(String call, long got, long want) {
        asked++;
        if (got != want) {
            wrong++;
            System.out.println(SITUATIONS[situation] + ": " + call + " answered " + got + ", due is " + want);
        }
    }

    /** Of two objects made alike one refuses a call; then all that can be seen of both is alike. */
    private static void refused(int want, String name, Object... numbers) {
        String call = Calls.told(name, numbers);
        PosterSheet asked = make();
        PosterSheet other = make();
        due(call, Calls.answer(asked, name, numbers), want);
        for (int what = 0; what <= 2; what++) {
            int more = what == BAD - want ? 1 : 0;
            due("told(" + what + ") behind " + call, asked.told(what), other.told(what) + more);
        }
        List<Long> now = Seen.of(asked);
        List<Long> due = Seen.of(other);
        due("as many answers behind " + call, now.size(), due.size());
        for (int i = 0; i < now.size() && i < due.size(); i++) {
            due("what is seen " + i + " behind " + call, now.get(i), due.get(i));
        }
        due("told(" + (BAD - want) + ") at last behind " + call, asked.told(BAD - want), other.told(BAD - want) + 1);
    }

    /** These are BAD whatever the object holds, also where it could be NO or FULL. */
    private static void numbersNotAsTold() {
        theSheetAndItsItems();
        whereTheyLie();
        whiteAndWeight();
        seriesAndTexts();
    }

    private static void theSheetAndItsItems() {
        int[][] sheets = {{5, 12}, {17, 12}, {12, 5}, {12, 17}, {5, 17}, {0, 0}, {-6, 6}, {LEAST, 6}, {6, MOST}};
        for (int[] s : sheets) {
            refused(BAD, "sheet", s[0], s[1]);
        }
        int[][] settings = {
            {0, -1}, {0, 3}, {1, -1}, {1, 3}, {2, 9}, {2, 81}, {3, 9}, {3, 31}, {4, -1}, {4, 7},
            {-1, 1}, {5, 1}, {-1, 10}, {5, 10}, {LEAST, 0}, {MOST, 0}, {2, LEAST}, {4, MOST},
        };
        for (int[] s : settings) {
            refused(BAD, "sets", s[0], s[1]);
        }
        int[][] items = {
            {-1, 1, 1, 1}, {2, 1, 1, 1}, {0, 0, 1, 1}, {0, 7, 1, 1}, {1, 1, 0, 1}, {1, 1, 5, 1},
            {1, 6, 4, 0}, {1, 6, 4, 5}, {0, 1, 1, 0}, {0, 1, 1, 5}, {LEAST, 1, 1, 1}, {0, MOST, 1, 1}, {0, 1, LEAST, MOST},
        };
        for (int[] i : items) {
            refused(BAD, "item", i[0], i[1], i[2], i[3]);
        }
        for (int k : new int[] {-1, 8, LEAST, MOST}) {
            refused(BAD, "drops", k);
            refused(BAD, "becomes", k, 0, 0);
            refused(BAD, "of", k, 0);
        }
        int[][] traits = {
            {0, -1}, {0, 2}, {1, 0}, {1, 7}, {2, 0}, {2, 5}, {3, 0}, {3, 5}, {-1, 1}, {4, 1}, {LEAST, 1}, {3, MOST},
        };
        for (int[] t : traits) {
            refused(BAD, "becomes", 0, t[0], t[1]);
        }
        for (int what : new int[] {-1, 10, LEAST, MOST}) {
            refused(BAD, "of", 0, what);
        }
        for (int rank : new int[] {0, 7, -1, LEAST, MOST}) {
            refused(BAD, "side", rank);
        }
        for (int k : new int[] {-1, -2, LEAST}) {
            refused(BAD, "line", k);
        }
    }

    private static void whereTheyLie() {
        for (int k : new int[] {-1, 8, LEAST, MOST}) {
            refused(BAD, "lays", k, 1, 1);
            refused(BAD, "off", k);
            refused(BAD, "swaps", k, 0);
            refused(BAD, "swaps", 0, k);
            refused(BAD, "swaps", k, k);
            refused(BAD, "fits", k, 1, 1);
            refused(BAD, "free", k, 0);
        }
        int[][] places = {{-1, 1}, {16, 1}, {1, -1}, {1, 16}, {-1, 16}, {LEAST, 0}, {0, MOST}};
        for (int[] p : places) {
            refused(BAD, "lays", 0, p[0], p[1]);
            refused(BAD, "fits", 0, p[0], p[1]);
            refused(BAD, "at", p[0], p[1]);
        }
        for (int k = 0; k < 8; k++) {
            refused(BAD, "swaps", k, k);
        }
        for (int what : new int[] {-1, 4, LEAST, MOST}) {
            refused(BAD, "free", 0, what);
        }
        int w = make().told(5);
        int h = make().told(6);
        refused(BAD, "at", w, 0);
        refused(BAD, "at", 0, h);
        refused(BAD, "at", w, h);
    }

    private static void whiteAndWeight() {
        for (int what : new int[] {-1, 6, LEAST, MOST}) {
            refused(BAD, "white", what);
        }
        for (int what : new int[] {-1, 3, LEAST, MOST}) {
            refused(BAD, "centre", what);
        }
        for (int what : new int[] {-1, 4, LEAST, MOST}) {
            refused(BAD, "all", what);
        }
        int[][] sorts = {{-1, 0}, {2, 0}, {0, -1}, {1, -1}, {2, -1}, {LEAST, 0}, {MOST, 0}, {1, LEAST}};
        for (int[] s : sorts) {
            refused(BAD, "sorted", s[0], s[1]);
        }
    }

    private static void seriesAndTexts() {
        for (int s : new int[] {-1, 3, LEAST, MOST}) {
            refused(BAD, "keeps", s);
            refused(BAD, "takes", s);
            refused(BAD, "otherwise", s, 0);
        }
        for (int what : new int[] {-1, 2, LEAST, MOST}) {
            refused(BAD, "otherwise", 0, what);
            refused(BAD, "otherwise", 1, what);
        }
        for (int c : new int[] {-1, 128, 255, LEAST, MOST}) {
            refused(BAD, "type", c);
        }
        for (int what : new int[] {-1, 14, LEAST, MOST}) {
            refused(BAD, "told", what);
        }
    }

    private static void byANewObject() {
        situation = 0;
        refused(BAD, "drops", 0);
        refused(BAD, "becomes", 0, 0, 0);
        refused(BAD, "of", 0, 0);
        refused(BAD, "lays", 0, 1, 1);
        refused(BAD, "off", 0);
        refused(BAD, "swaps", 0, 1);
        refused(BAD, "fits", 0, 1, 1);
        refused(BAD, "free", 0, 3);
        for (int s = 0; s <= 2; s++) {
            refused(NO, "takes", s);
            refused(NO, "otherwise", s, 0);
            refused(NO, "otherwise", s, 1);
        }
        refused(NO, "back");
    }

    private static void bySome() {
        situation = 1;
        for (int k : new int[] {4, 5, 7}) {
            refused(BAD, "drops", k);
            refused(BAD, "becomes", k, 2, 1);
            refused(BAD, "of", k, 9);
            refused(BAD, "lays", k, 1, 1);
            refused(BAD, "off", k);
            refused(BAD, "swaps", 0, k);
            refused(BAD, "swaps", k, 2);
            refused(BAD, "fits", k, 1, 1);
            refused(BAD, "free", k, 0);
        }
        // ITEM 3 is 4 by 4, on 9 by 11 CELLS: over 0 and 1, in each MARGIN, beyond THE SHEET.
        int[][] places = {{1, 1}, {2, 3}, {0, 7}, {5, 7}, {1, 8}, {4, 0}, {0, 0}, {9, 1}, {1, 11}, {15, 15}, {15, 0}, {0, 15}};
        for (int[] p : places) {
            refused(NO, "lays", 3, p[0], p[1]);
        }
        refused(NO, "off", 2);
        refused(NO, "off", 3);
        refused(NO, "swaps", 2, 3);
        refused(NO, "swaps", 3, 2);
        for (int s = 0; s <= 2; s += 2) {
            refused(NO, "takes", s);
            refused(NO, "otherwise", s, 0);
            refused(NO, "otherwise", s, 1);
        }
    }

    private static void byAFullOne() {
        situation = 2;
        refused(FULL, "item", 0, 1, 1, 1);
        refused(FULL, "item", 1, 6, 4, 4);
        refused(FULL, "type", 0);
        refused(FULL, "type", 'a');
        refused(FULL, "type", 127);
        refused(NO, "lays", 7, 15, 15);
        refused(NO, "off", 0);
    }
}
