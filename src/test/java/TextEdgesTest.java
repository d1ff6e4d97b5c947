import java.util.ArrayDeque;
import java.util.ArrayList;
import java.util.Arrays;
import java.util.List;

/**
 * The sentences of the document on THE TEXT and STATES that name a boundary case, each with a test of its own,
 * that begins with the sentence.
 */
public final class TextEdgesTest {
    private static final int NO = PosterSheet.NO;
    private static final int FULL = PosterSheet.FULL;
    /** Each ORDER once, as few bytes as can be, and none refused by a new object. */
    private static final String[] ORDERS = {
        "i0 1 1 1;", "w12 12;", "m1;", "g0;", "b40;", "r15;", "c0;", "p0 1 1;", "o0;", "a;",
    };
    private static final Check check = new Check();
    private static PosterSheet p;

    public static void main(String[] args) {
        bytes();
        clears();
        ordersAtTheirEdges();
        ordersRefused();
        endsTooEarly();
        figures();
        blanks();
        everyByte();
        faultsFirst();
        faultsAtTheEdges();
        ordersThatStopAll();
        nothingCounts();
        oneStateForAll();
        whoLeavesAState();
        fiveStates();
        manyStates();
        statesHold();
        statesHoldLines();
        statesHoldKeptSheets();
        refusalsAreNotHeld();
        told();
        digestOfANewObject();
        digestCounts();
        check.end();
    }

    private static void begin(String sentence) {
        p = check.begin(sentence);
    }

    /** What a new object answers to a text. */
    private static void readsAnew(String text, long want) {
        p = check.again();
        if (want < 0) {
            check.readsNothing(text, want);
        } else {
            check.reads(text, want);
        }
    }

    // ---- THE TEXT

    private static void bytes() {
        begin("THE TEXT (120 bytes at most); type: a byte (0 .. 127) .. FULL: 120");
        for (int i = 0; i < 120; i++) {
            check.due("told(3)", p.told(3), i);
            check.due("type(" + (i * 127 / 119) + ")", p.type(i * 127 / 119), i + 1);
        }
        check.refused("the 121st", () -> p.type(0), FULL);
        check.refused("the 121st again", () -> p.type(127), FULL);
        check.refused("BAD before FULL", () -> p.type(128), -2);
        check.due("told(3)", p.told(3), 120);
        check.due("told(2): type() counts as any call", p.told(2), 2);
        check.due("told(0): type() counts as any call", p.told(0), 1);
        check.due("told(13): it is not told S", p.told(13), 0);
    }

    private static void clears() {
        begin("clear: THE TEXT is empty: how many it had");
        check.asks("clear() of none", () -> p.clear(), 0);
        Calls.type(p, "a;".repeat(60));
        check.due("clear() of 120", p.clear(), 120);
        check.due("told(3)", p.told(3), 0);
        check.asks("clear() again", () -> p.clear(), 0);
        check.due("reads(): an empty one, too", p.reads(), -10);
        check.due("type(97): room again", p.type('a'), 1);
        check.due("clear() of one", p.clear(), 1);
        check.due("told(13): it is not told S", p.told(13), 0);
    }

    private static void ordersAtTheirEdges() {
        begin("i s r a b (as item), least and most");
        check.reads("i 0 1 1 1;", 1);
        check.reads("i 1 6 4 4;", 1);
        int[][] items = {{0, 1, 1, 1}, {1, 6, 4, 4}};
        for (int k = 0; k < 2; k++) {
            for (int what = 0; what < 4; what++) {
                check.due("of(" + k + ", " + what + ")", p.of(k, what), items[k][what]);
            }
        }
        begin("w w h (as sheet), least and most");
        check.reads("w 6 16;", 1);
        check.due("told(5)", p.told(5), 6);
        check.due("told(6)", p.told(6), 16);
        check.reads("w 16 06;", 1);
        check.due("told(5)", p.told(5), 16);
        check.due("told(6)", p.told(6), 6);
        String letters = "mgbrc";
        int[][] settings = {{0, 2}, {0, 2}, {10, 80}, {10, 30}, {0, 6}};
        for (int what = 0; what < 5; what++) {
            begin("m v, g v, b v, r v, c v (as sets), least and most, " + letters.charAt(what));
            for (int v : settings[what]) {
                check.reads(letters.charAt(what) + " " + v + ";", 1);
                check.due("told(" + (7 + what) + ")", p.told(7 + what), v);
            }
        }
        begin("p k x y (as lays); o k (as off); a (as packs), least and most");
        check.reads("w 16 16; m 0; b 10; i 0 1 1 1; p 0 0 0;", 5);
        check.reads("p 0 15 15;", 1);
        check.due("of(0, 4)", p.of(0, 4), 15);
        check.due("of(0, 5)", p.of(0, 5), 15);
        check.reads("o 0;", 1);
        check.due("all(0)", p.all(0), 0);
        for (int k = 1; k < 8; k++) {
            p.item(0, 1, 1, 1);
        }
        check.reads("p 7 15 0;", 1);
        check.due("all(0)", p.all(0), 128);
        check.reads("o 7;", 1);
        check.reads("a;", 1);
        check.due("all(0)", p.all(0), 255);
    }

    private static void ordersRefused() {
        String[] refused = {
            "i 2 1 1 1;", "i 0 0 1 1;", "i 0 7 1 1;", "i 0 1 0 1;", "i 0 1 5 1;", "i 0 1 1 0;", "i 0 1 1 5;", "i 99 99 99 99;",
            "w 5 6;", "w 6 5;", "w 17 16;", "w 16 17;", "w 0 0;", "m 3;", "m 99;", "g 3;", "b 9;", "b 81;", "b 0;", "r 9;",
            "r 31;", "c 7;", "p 2 1 1;", "p 0 16 1;", "p 0 1 16;", "p 0 0 1;", "p 0 1 0;", "p 1 1 1;", "p 99 1 1;", "o 2;", "o 1;",
        };
        for (String order : refused) {
            begin("An ORDER that its call would refuse stops all: nothing is done");
            p.item(0, 1, 1, 1);
            p.item(0, 1, 1, 1);
            p.lays(0, 1, 1);
            check.readsNothing(order, -1000);
            check.readsNothing("r 20; b 30; g 2; c 6;" + order + "a;", -1004);
            check.readsNothing(order + "x", -10 - order.length());
        }
        begin("An ORDER that its call would refuse stops all (FULL)");
        for (int k = 0; k < 8; k++) {
            p.item(0, 1, 1, 1);
        }
        check.readsNothing("i 0 1 1 1;", -1000);
        p.drops(3);
        check.readsNothing("i 0 1 1 1; i 0 1 1 1;", -1001);
        check.reads("i 0 1 1 1;", 1);
    }

    private static void endsTooEarly() {
        String all = String.join("", ORDERS);
        int orders = 0;
        for (int i = 0; i <= all.length(); i++) {
            begin("FAULT: .. THE TEXT's length, if it ends too early (an empty one, too)");
            String begun = all.substring(0, i);
            orders += begun.endsWith(";") ? 1 : 0;
            if (begun.endsWith(";")) {
                check.reads(begun, orders);
                check.reads(begun + " ", orders);
            } else {
                check.readsNothing(begun, -10 - i);
                check.readsNothing(begun + " ", -10 - i - 1);
            }
        }
    }

    private static void figures() {
        begin("Numbers have 1 or 2 figures .. (a third figure)");
        p.item(0, 1, 1, 1);
        check.reads("b 10;", 1);
        check.reads("m 0;m 00;m 2;m 02;", 4);
        check.due("told(7)", p.told(7), 2);
        check.reads("i 00 06 04 04;", 1);
        check.readsNothing("b 010;", -14);
        check.readsNothing("b 100;", -14);
        check.readsNothing("m 000;", -14);
        check.readsNothing("w 012 12;", -14);
        check.readsNothing("w 12 012;", -17);
        check.readsNothing("i 000 1 1 1;", -14);
        check.readsNothing("i 0 001 1 1;", -16);
        check.readsNothing("i 0 1 001 1;", -18);
        check.readsNothing("i 0 1 1 001;", -20);
        check.readsNothing("p 000 1 1;", -14);
        check.readsNothing("p 0 1 001;", -18);
        check.readsNothing("o 000;", -14);
        check.readsNothing("b 1000", -14);
    }

    private static void blanks() {
        begin("blanks (32) may stand anywhere but within a number, needed only between two numbers");
        check.reads(" i 0 1 1 1 ; b 20 ; a ; ", 3);
        check.reads("i0 1 1 1;b20;a;", 3);
        check.reads("   i   0   1   1   1   ;   w   12   12   ;   p   1   1   3   ;   ", 3);
        check.readsNothing("i0111;", -10 - 3);
        check.readsNothing("i01 11;", -10 - 6);
        check.readsNothing("i 0 1 11;", -10 - 8);
        check.readsNothing("w1212;", -10 - 3);
        check.readsNothing("w12;", -10 - 3);
        check.readsNothing("p01 1;", -10 - 5);
        check.readsNothing("b 2 0;", -10 - 4);
        check.readsNothing("o 0 0;", -10 - 4);
        for (char c : new char[] {0, 9, 10, 13, 31, 33, '_', 127}) {
            p = check.again();
            check.readsNothing("b" + c + "20;", -10 - 1);
            check.readsNothing("b 20" + c + ";", -10 - 4);
            check.readsNothing(c + "b 20;", -10);
            check.readsNothing("b 20;" + c, -10 - 5);
        }
        begin("blanks: THE TEXT's length, if it ends too early (blanks alone)");
        for (int n = 1; n <= 120; n += 17) {
            readsAnew(" ".repeat(n), -10 - n);
        }
        readsAnew(" ".repeat(120), -130);
        readsAnew(" ".repeat(118) + "a;", 1);
        readsAnew("a" + " ".repeat(118) + ";", 1);
        readsAnew("a;" + " ".repeat(118), 1);
    }

    /** Each byte there is in each place of a text, and beside each, as the Model takes it. */
    private static void everyByte() {
        String text = " i0 01 2 4;w 9 10;p0 1 1 ;b9;a;";
        for (int place = 0; place <= text.length(); place++) {
            check.begin("FAULT: the place of the first byte that can not stand there");
            for (int c = 0; c < 128; c++) {
                faultAsDue(text.substring(0, place) + (char) c + text.substring(place));
                if (place < text.length()) {
                    faultAsDue(text.substring(0, place) + (char) c + text.substring(place + 1));
                }
            }
        }
    }

    private static void faultAsDue(String text) {
        PosterSheet sheet = new PosterSheet();
        Model model = new Model();
        for (char c : text.toCharArray()) {
            sheet.type(c);
            model.type(c);
        }
        check.due("reads() of \"" + text + "\"", sheet.reads(), model.reads());
    }

    private static void faultsFirst() {
        begin("FAULT: the place of the first byte that can not stand there .. If there is one, nothing is done");
        String letters = "iwmgbrcpoa";
        for (int c = 0; c < 128; c++) {
            String one = String.valueOf((char) c);
            boolean begins = letters.indexOf(c) >= 0 || c == ' ';
            begin("FAULT: of one byte");
            check.readsNothing(one, begins ? -11 : -10);
            if (c == ' ') {
                check.reads("a;" + one, 1);
            } else {
                check.readsNothing("a;" + one, begins ? -13 : -12);
            }
        }
    }

    private static void faultsAtTheEdges() {
        begin("FAULT, 0 to 120");
        String full = "a;".repeat(60);
        readsAnew("x" + full.substring(1), -10);
        readsAnew(full.substring(0, 119) + "x", -10 - 119);
        readsAnew(full.substring(0, 118) + "x;", -10 - 118);
        readsAnew(full.substring(0, 119) + " ", -10 - 120);
        readsAnew(full.substring(0, 118) + " a", -10 - 120);
        readsAnew(full.substring(0, 118) + "b9", -10 - 120);
        readsAnew(full, 60);
        readsAnew(full.substring(0, 118), 59);
        readsAnew(full.substring(0, 118) + "  ", 59);
    }

    private static void ordersThatStopAll() {
        begin("-1000 less the number (0 on) of the ORDER that stops all");
        readsAnew("o0;" + "a;".repeat(58), -1000);
        readsAnew("a;".repeat(58) + "o0;", -1058);
        readsAnew("a;o0;a;o1;", -1001);
        readsAnew("o0;x", -13);
        // What an earlier ORDER does counts for a later one.
        readsAnew("i 0 1 1 1;i 0 1 1 1;p 0 1 1;p 1 1 1;", -1003);
        readsAnew("i 0 1 1 1;p 0 1 1;o 0;o 0;", -1003);
        readsAnew("i 0 1 1 1;w 6 6;p 0 1 1;m 2;p 0 1 1;", -1004);
        readsAnew("i 0 1 1 1;c 1;p 0 2 1;", -1002);
        readsAnew("i 0 1 1 1;p 0 1 1;o 0;m 0;p 0 0 0;o 0;a;", 7);
        check.due("told(7)", p.told(7), 0);
        check.due("of(0, 4)", p.of(0, 4), 0);
        check.due("of(0, 5)", p.of(0, 5), 0);
    }

    private static void nothingCounts() {
        begin("By what THE TEXT tells, by a FAULT of it nothing counts");
        for (int k = 0; k < 8; k++) {
            p.item(0, 1, 1, 1);
        }
        String[] texts = {"w 5 5;", "p 0 15 15;", "o 0;", "i 0 1 1 1;", "x", "", "b 100;", "a; a; m 3;"};
        for (String text : texts) {
            p.clear();
            Calls.type(p, text);
            check.due("reads() below 0", p.reads() < 0 ? 1 : 0, 1);
            for (int what = 0; what <= 2; what++) {
                check.due("told(" + what + ") behind \"" + text + "\"", p.told(what), 0);
            }
        }
    }

    private static void oneStateForAll() {
        begin("reads: S (one STATE for all)");
        check.reads("i 0 1 1 1;i 0 1 1 1;p 0 1 1;w 10 10;g 1;", 5);
        check.due("told(13)", p.told(13), 1);
        check.reads("a;a;a;a;a;a;a;a;", 8);
        check.due("told(13)", p.told(13), 2);
        check.due("back()", p.back(), 1);
        check.due("all(0)", p.all(0), 1);
        check.due("back()", p.back(), 0);
        check.due("told(4)", p.told(4), 0);
        check.due("told(5)", p.told(5), 12);
        check.due("told(8)", p.told(8), 0);
        check.due("told(3): THE TEXT stays", p.told(3), 16);

        begin("reads: a STATE also if nothing changes, none if nothing is done");
        check.reads("a;", 1);
        check.due("told(13)", p.told(13), 1);
        check.readsNothing("a", -11);
        check.readsNothing("m 3;", -1000);
        check.due("told(13)", p.told(13), 1);
    }

    // ---- STATES

    /** Calls told S and calls that are not, each done where it is not refused. */
    private static void whoLeavesAState() {
        begin("STATES: each call told S, if it is not refused, leaves one, also if nothing changes by it");
        Object[][] leaving = {
            {"sheet", 12, 12}, {"sets", 0, 1}, {"sets", 4, 0}, {"item", 0, 1, 1, 1}, {"drops", 0}, {"becomes", 0, 1, 1},
            {"lays", 0, 1, 1}, {"off", 0}, {"swaps", 0, 1}, {"packs"}, {"tidies"}, {"keeps", 0}, {"takes", 1}, {"reads"},
        };
        Object[][] asking = {
            {"of", 0, 9}, {"side", 1}, {"line", 0}, {"fits", 0, 1, 1}, {"free", 0, 1}, {"stays"}, {"at", 1, 1}, {"white", 4},
            {"centre", 2}, {"all", 3}, {"sorted", 0, 0}, {"otherwise", 1, 1}, {"type", 97}, {"clear"}, {"told", 13}, {"digest"},
        };
        for (Object[] call : leaving) {
            check.due("told(13) behind " + call[0], stateLeftBy(call), 1);
        }
        for (Object[] call : asking) {
            check.due("told(13) behind " + call[0], stateLeftBy(call), 0);
        }
    }

    private static int stateLeftBy(Object[] call) {
        PosterSheet sheet = new PosterSheet();
        Calls.type(sheet, "i 0 1 1 1;i 0 2 1 1;p 0 1 1;");
        sheet.reads();
        sheet.keeps(1);
        sheet.clear();
        Calls.type(sheet, "a;");
        Object[] numbers = Arrays.copyOfRange(call, 1, call.length);
        Calls.answer(sheet, (String) call[0], numbers);
        check.due("none is refused", sheet.told(0) + sheet.told(1) + sheet.told(2), 0);
        return sheet.told(13) - 2;
    }

    private static void fiveStates() {
        for (int many = 0; many <= 12; many++) {
            begin("STATES: 5 at most, older ones lost; back: how many can be yet. NO: none");
            for (int i = 1; i <= many; i++) {
                p.sets(2, 10 + i);
                check.due("told(13)", p.told(13), Math.min(5, i));
            }
            for (int left = Math.min(5, many) - 1; left >= 0; left--) {
                check.due("back() of " + many, p.back(), left);
                int big = many - Math.min(5, many) + left;
                check.due("told(9)", p.told(9), big == 0 ? 40 : 10 + big);
            }
            check.refused("back(): NO: none", () -> p.back(), NO);
            check.refused("back(): NO: none, again", () -> p.back(), NO);
            check.due("told(13)", p.told(13), 0);
        }
    }

    /** Back and on again, so that the five places come round. */
    private static void manyStates() {
        for (int step = 1; step <= 5; step++) {
            begin("STATES: back and on again");
            ArrayDeque<Integer> were = new ArrayDeque<>();
            int now = 40;
            for (int i = 0; i < 60; i++) {
                if (i % 7 < step || were.isEmpty()) {
                    were.addLast(now);
                    if (were.size() > 5) {
                        were.removeFirst();
                    }
                    check.due("sets", p.sets(2, 11 + i), now);
                    now = 11 + i;
                } else {
                    now = were.removeLast();
                    check.due("back()", p.back(), were.size());
                }
                check.due("told(9)", p.told(9), now);
                check.due("told(13)", p.told(13), were.size());
            }
        }
    }

    private static void statesHold() {
        begin("to go back to (THE SHEET with all its numbers, ITEMS, where they lie, KEPT SHEETS)");
        p.item(1, 2, 3, 4);
        p.item(0, 5, 1, 1);
        p.lays(1, 3, 2);
        p.keeps(1);
        p.lays(0, 6, 6);
        Object[][] changes = {
            {"sheet", 7, 9}, {"sets", 0, 2}, {"sets", 1, 1}, {"sets", 2, 41}, {"sets", 3, 16}, {"sets", 4, 3},
            {"item", 0, 1, 1, 1}, {"drops", 0}, {"drops", 1}, {"becomes", 0, 0, 0}, {"becomes", 0, 1, 3}, {"becomes", 1, 2, 2},
            {"becomes", 1, 3, 2}, {"lays", 1, 2, 2}, {"off", 0}, {"swaps", 0, 1}, {"packs"}, {"keeps", 0}, {"keeps", 1},
            {"takes", 1}, {"tidies"},
        };
        for (Object[] call : changes) {
            long before = p.digest();
            int unlike = p.otherwise(1, 0);
            int far = p.otherwise(1, 1);
            Object[] numbers = Arrays.copyOfRange(call, 1, call.length);
            Calls.answer(p, (String) call[0], numbers);
            check.due("back() behind " + call[0], p.back(), 4);
            // One STATE is lost by the sixth change; it is put there again, so that the next digest is alike.
            p.sheet(12, 12);
            check.due("digest() behind " + call[0], p.digest(), before);
            check.due("otherwise(1, 0) behind " + call[0], p.otherwise(1, 0), unlike);
            check.due("otherwise(1, 1) behind " + call[0], p.otherwise(1, 1), far);
        }
        check.due("otherwise(1, 0)", p.otherwise(1, 0), 1);
    }

    private static void statesHoldLines() {
        begin("to go back to (THE SHEET with all its numbers): COLUMNS");
        p.item(0, 6, 1, 1);
        p.sets(4, 3);
        p.sets(4, 2);
        p.sheet(9, 9);
        // LINES were 1, 4 and 7; then 1 and 6; then 1 and 4.
        int[][] lines = {{1, 4}, {1, 6}, {1, 4, 7}};
        for (int i = 0; i < 3; i++) {
            for (int line : lines[i]) {
                check.asks("fits(0, " + line + ", 1)", () -> p.fits(0, line, 1), 1);
            }
            check.asks("free(0, 3)", () -> p.free(0, 3), lines[i].length * (i == 0 ? 7 : 10));
            p.back();
        }
        check.asks("free(0, 3): no LINES", () -> p.free(0, 3), 100);
        check.reads("c 6;", 1);
        check.asks("free(0, 3): by what THE TEXT tells", () -> p.free(0, 3), 60);
        check.readsNothing("c 2; m 3;", -1001);
        check.asks("free(0, 3): by what is not done", () -> p.free(0, 3), 60);
    }

    private static void statesHoldKeptSheets() {
        for (int t = 0; t <= 2; t++) {
            int s = t;
            begin("to go back to (KEPT SHEETS), " + s);
            p.sets(2, 10);
            for (int k = 0; k < 8; k++) {
                p.item(0, 1, 1, 1);
            }
            p.packs();
            p.keeps(s);
            Calls.type(p, "a; m 0; a;");
            check.due("reads()", p.reads(), 3);
            check.due("otherwise(" + s + ", 0)", p.otherwise(s, 0), 8);
            check.due("otherwise(" + s + ", 1)", p.otherwise(s, 1), 16);
            check.due("keeps(" + s + ") anew", p.keeps(s), 8);
            check.due("otherwise(" + s + ", 0)", p.otherwise(s, 0), 0);
            check.due("back()", p.back(), 4);
            check.due("otherwise(" + s + ", 0) behind back()", p.otherwise(s, 0), 8);
            check.due("otherwise(" + s + ", 1) behind back()", p.otherwise(s, 1), 16);
            check.due("takes(" + s + ")", p.takes(s), 8);
            for (int k = 0; k < 8; k++) {
                check.due("of(" + k + ", 4)", p.of(k, 4), 1 + k);
                check.due("of(" + k + ", 5)", p.of(k, 5), 1);
            }
            for (int i = 0; i < 3; i++) {
                check.due("back()", p.back(), 4 - i);
            }
            check.due("told(12): not KEPT yet", p.told(12), 0);
            check.refused("takes(" + s + ")", () -> p.takes(s), NO);
        }
    }

    private static void refusalsAreNotHeld() {
        begin("Refused .. changing nothing but how often; back() leaves how often, and THE TEXT");
        p.sets(2, 50);
        p.of(0, 0);
        p.takes(0);
        p.type('a');
        p.back();
        check.due("told(0)", p.told(0), 1);
        check.due("told(1)", p.told(1), 1);
        check.due("told(3)", p.told(3), 1);
        check.refused("back()", () -> p.back(), NO);
        check.due("told(1)", p.told(1), 2);
    }

    // ---- told, digest

    private static void told() {
        begin("told: how often refused: BAD (0), NO (1), FULL (2)");
        for (int i = 1; i <= 9; i++) {
            p.told(i % 2 == 0 ? -1 : 14);
            check.due("told(0)", p.told(0), i);
        }
        for (int i = 1; i <= 9; i++) {
            p.takes(i % 3);
            check.due("told(1)", p.told(1), i);
        }
        for (int k = 0; k < 8; k++) {
            p.item(0, 1, 1, 1);
        }
        for (int i = 1; i <= 9; i++) {
            p.item(0, 1, 1, 1);
            check.due("told(2)", p.told(2), i);
        }
        begin("told: KEPT SHEETS (12: bits)");
        int[] bits = {0, 4, 5, 5, 7, 7};
        int[] kept = {2, 0, 2, 1, 0};
        for (int i = 0; i < bits.length; i++) {
            check.due("told(12)", p.told(12), bits[i]);
            if (i < kept.length) {
                p.keeps(kept[i]);
            }
        }
        for (int i = bits.length - 2; i >= 0; i--) {
            p.back();
            check.due("told(12) behind back()", p.told(12), bits[i]);
        }
    }

    private static void digestOfANewObject() {
        begin("digest: h = 2281; then h = 31 h + v for each v");
        float side = 4.0f;
        List<Long> due = new ArrayList<>(List.of(0L, 0L, 0L, 0L, 0L, 12L, 12L, 1L, 0L, 40L, 15L, 0L, 0L, 0L));
        for (int rank = 1; rank <= 6; rank++) {
            due.add((long) Float.floatToIntBits(side));
            side = side / 1.5f;
        }
        due.addAll(List.of(144L, 144L, 1L));
        due.addAll(List.of(Double.doubleToLongBits(6.0), Double.doubleToLongBits(6.0), 0L, 0L));
        long h = 2281;
        for (long v : due) {
            h = 31 * h + v;
        }
        check.due("digest()", p.digest(), h);
        check.due("digest() again", p.digest(), h);
    }

    private static void digestCounts() {
        begin("digest: nothing is refused by it, nothing changed");
        for (int i = 0; i < 8; i++) {
            p.item(i % 2, 1 + i % 6, 1 + i % 4, 1 + i % 3);
        }
        p.packs();
        long first = p.digest();
        for (int i = 0; i < 20; i++) {
            check.due("digest()", p.digest(), first);
        }
        check.due("told(0)", p.told(0) + p.told(1) + p.told(2), 0);
        check.due("told(13)", p.told(13), 5);
    }
}
