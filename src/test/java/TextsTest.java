/** Promises 26 to 31: texts, states, what is told. */
public final class TextsTest {
    private static final Check check = new Check();
    private static PosterSheet p;

    public static void main(String[] args) {
        type();
        clear();
        reads();
        readsBlanks();
        faults();
        faultsOfEmptyTexts();
        stopped();
        stoppedByEachOrder();
        longTexts();
        back();
        backBringsAll();
        told();
        digest();
        check.end();
    }

    private static void type() {
        p = check.begin("promise 26");
        check.refused("type(-1)", () -> p.type(-1), -2);
        check.refused("type(128)", () -> p.type(128), -2);
        check.due("type(0)", p.type(0), 1);
        check.due("type(127)", p.type(127), 2);
        check.due("told(13): no STATE is left", p.told(13), 0);
        for (int i = 2; i < 120; i++) {
            check.due("type(32)", p.type(32), i + 1);
        }
        check.refused("type(32): FULL", () -> p.type(32), -4);
        check.refused("type(128): BAD before FULL", () -> p.type(128), -2);
        check.due("told(3)", p.told(3), 120);
    }

    private static void clear() {
        p = check.begin("promise 27");
        check.asks("clear() of none", () -> p.clear(), 0);
        check.type("a;b");
        check.due("clear()", p.clear(), 3);
        check.due("told(3)", p.told(3), 0);
        check.due("told(13)", p.told(13), 0);
        check.due("clear()", p.clear(), 0);
        check.due("reads()", p.reads(), -10);
        check.due("type('a')", p.type('a'), 1);
        check.due("type(';')", p.type(';'), 2);
        check.due("reads()", p.reads(), 1);
    }

    private static void reads() {
        p = check.begin("promise 28");
        check.reads("i 0 3 2 1;", 1);
        check.due("told(3): THE TEXT stays", p.told(3), 10);
        check.due("of(0, 1)", p.of(0, 1), 3);
        check.due("of(0, 2)", p.of(0, 2), 2);
        check.reads("w 16 14;", 1);
        check.due("told(5)", p.told(5), 16);
        check.due("told(6)", p.told(6), 14);
        check.reads("m 0;", 1);
        check.due("told(7)", p.told(7), 0);
        check.reads("g 2;", 1);
        check.due("told(8)", p.told(8), 2);
        check.due("told(13)", p.told(13), 4);

        p = check.begin("promise 28, more");
        check.reads("b 20;", 1);
        check.due("told(9)", p.told(9), 20);
        check.reads("r 10;", 1);
        check.due("told(10)", p.told(10), 10);
        check.reads("c 2;i 1 2 3 4;", 2);
        check.due("told(11)", p.told(11), 2);
        check.due("of(0, 3)", p.of(0, 3), 4);
        check.reads("p 0 6 9;", 1);
        check.due("of(0, 4)", p.of(0, 4), 6);
        check.due("of(0, 5)", p.of(0, 5), 9);

        p = check.begin("promise 28, still more");
        check.reads("i 0 1 1 1; i 0 1 1 1; p 1 1 1; o 1; p 0 1 1; p 1 5 1; o 0;", 7);
        check.due("all(0)", p.all(0), 2);
        check.due("of(1, 4)", p.of(1, 4), 5);
        check.reads("a;", 1);
        check.due("all(0)", p.all(0), 3);
        check.due("of(1, 4)", p.of(1, 4), 5);
        check.due("reads() once more", p.reads(), 1);
        check.due("told(13)", p.told(13), 3);
    }

    private static void readsBlanks() {
        p = check.begin("promise 28, blanks");
        check.reads("   i  0   1 02  01  ;  a  ;   ", 2);
        check.due("of(0, 4)", p.of(0, 4), 1);
        check.due("of(0, 2)", p.of(0, 2), 2);
        check.reads("i1 1 1 1;i01 02 03 04;", 2);
        check.due("told(4)", p.told(4), 3);
        check.due("of(2, 3)", p.of(2, 3), 4);
        check.reads("b10;", 1);
        check.readsNothing("b 1 0;", -10 - 4);
        check.readsNothing("b\t10;", -10 - 1);
    }

    private static void faults() {
        p = check.begin("promise 28, FAULTS");
        check.readsNothing("x;", -10);
        check.readsNothing(";", -10);
        check.readsNothing("A;", -10);
        check.readsNothing(" 1;", -11);
        check.readsNothing("a;;", -12);
        check.readsNothing("a b;", -12);
        check.readsNothing("a 1;", -12);
        check.readsNothing("b;", -11);
        check.readsNothing("b 100;", -14);
        check.readsNothing("b 010;", -14);
        check.readsNothing("b -1;", -12);
        check.readsNothing("o 1 2;", -14);
        check.readsNothing("o 1a;", -13);
        check.readsNothing("w 8;", -13);
        check.readsNothing("w 8 8 8;", -16);
        check.readsNothing("i 0 1 1;", -17);
        check.readsNothing("i 0 1 1 1 1;", -20);
        check.readsNothing("p 0 1;", -15);
        check.readsNothing("p 0 1 1 1;", -18);
        check.readsNothing("i 0 1 1 1; q;", -21);
        check.readsNothing("w 99 99; a; z", -22);
    }

    private static void faultsOfEmptyTexts() {
        p = check.begin("promise 28, ends too early");
        check.readsNothing("", -10);
        check.readsNothing("   ", -13);
        check.readsNothing("a", -11);
        check.readsNothing("a  ", -13);
        check.readsNothing("b", -11);
        check.readsNothing("b 1", -13);
        check.readsNothing("b 12", -14);
        check.readsNothing("i 0 1 1", -17);
        check.readsNothing("a; b 20", -17);
        check.due("told(9)", p.told(9), 40);
    }

    private static void stopped() {
        p = check.begin("promise 28, an ORDER that stops all");
        p.item(0, 1, 1, 1);
        check.readsNothing("b 20; w 6 6; p 0 1 1; g 2; o 1;", -1004);
        check.due("told(9)", p.told(9), 40);
        check.due("told(5)", p.told(5), 12);
        check.due("of(0, 4)", p.of(0, 4), PosterSheet.NONE);
        check.readsNothing("i 0 1 1 1; o 0; a;", -1001);
        check.due("told(4)", p.told(4), 1);
        check.readsNothing("a; o 0; o 0;", -1002);
        check.readsNothing("i 0 1 1 1;i 0 1 1 1;i 0 1 1 1;i 0 1 1 1;i 0 1 1 1;i 0 1 1 1;i 0 1 1 1;i 0 1 1 1;", -1007);
        check.due("told(2)", p.told(2), 0);
        check.due("told(13)", p.told(13), 1);
    }

    private static void stoppedByEachOrder() {
        String[] refused = {
            "i 2 1 1 1;", "i 0 0 1 1;", "i 0 1 5 1;", "i 0 1 1 0;", "w 5 9;", "w 9 17;", "m 3;", "g 3;", "b 9;",
            "b 81;", "r 9;", "r 31;", "c 7;", "p 1 1 1;", "p 0 16 1;", "p 0 1 16;", "p 0 0 0;", "o 1;", "o 0;",
        };
        for (String text : refused) {
            p = check.begin("promise 28, refused");
            p.item(0, 1, 1, 1);
            check.readsNothing(text, -1000);
            check.readsNothing("a; a; o 0; " + text, -1003);
        }
    }

    private static void longTexts() {
        p = check.begin("promise 28, 120 bytes");
        p.item(0, 1, 1, 1);
        StringBuilder all = new StringBuilder();
        for (int i = 0; i < 60; i++) {
            all.append("a;");
        }
        check.type(all.toString());
        check.changes("reads() of 60 ORDERS", () -> p.reads(), 60);
        all.setCharAt(119, 'a');
        check.readsNothing(all.toString(), -10 - 119);

        p = check.begin("promise 28, 120 bytes that end too early");
        all.setCharAt(119, ' ');
        check.readsNothing(all.toString(), -10 - 120);
        all.setLength(0);
        for (int i = 0; i < 120; i++) {
            all.append(' ');
        }
        check.readsNothing(all.toString(), -130);
    }

    private static void back() {
        p = check.begin("promise 29");
        check.refused("back()", () -> p.back(), -3);
        for (int big = 10; big <= 16; big++) {
            check.due("sets(2, " + big + ")", p.sets(2, big), big == 10 ? 40 : big - 1);
        }
        check.due("told(13)", p.told(13), 5);
        for (int left = 4; left >= 0; left--) {
            check.due("back()", p.back(), left);
            check.due("told(9)", p.told(9), 11 + left);
        }
        check.refused("back(): older ones are lost", () -> p.back(), -3);
        check.due("sets(2, 50)", p.sets(2, 50), 11);
        check.due("sets(2, 50)", p.sets(2, 50), 50);
        check.due("back()", p.back(), 1);
        check.due("told(9): nothing had changed", p.told(9), 50);
        check.due("sets(2, 60)", p.sets(2, 60), 50);
        check.due("back()", p.back(), 1);
        check.due("back()", p.back(), 0);
        check.due("told(9)", p.told(9), 11);
    }

    private static void backBringsAll() {
        p = check.begin("promise 29, all");
        p.item(0, 1, 1, 1);
        p.lays(0, 1, 1);
        p.keeps(0);
        p.lays(0, 4, 5);
        check.due("otherwise(0, 1)", p.otherwise(0, 1), 7);
        p.keeps(0);
        p.keeps(1);
        p.sheet(6, 6);
        p.sets(4, 3);
        p.drops(0);
        check.due("told(12)", p.told(12), 3);
        check.refused("lays(0, 1, 1)", () -> p.lays(0, 1, 1), -2);
        check.due("type('a')", p.type('a'), 1);
        check.due("back()", p.back(), 4);
        check.due("of(0, 5)", p.of(0, 5), 5);
        check.due("told(11)", p.told(11), 3);
        check.due("back()", p.back(), 3);
        check.due("told(11)", p.told(11), 0);
        check.due("line(0)", p.line(0), PosterSheet.NONE);
        check.due("back()", p.back(), 2);
        check.due("told(5)", p.told(5), 12);
        check.due("back()", p.back(), 1);
        check.due("told(12)", p.told(12), 1);
        check.due("otherwise(0, 1)", p.otherwise(0, 1), 0);
        check.due("back()", p.back(), 0);
        check.due("otherwise(0, 1): KEPT SHEETS, too", p.otherwise(0, 1), 7);
        check.due("told(0): how often stays", p.told(0), 1);
        check.due("told(3): THE TEXT stays", p.told(3), 1);
    }

    private static void told() {
        p = check.begin("promise 30");
        p.sheet(7, 9);
        p.sets(0, 2);
        p.sets(1, 1);
        p.sets(2, 33);
        p.sets(3, 22);
        p.sets(4, 4);
        p.item(0, 6, 1, 1);
        p.item(0, 6, 1, 1);
        p.item(0, 6, 1, 1);
        p.type(';');
        p.type(';');
        p.off(0);
        p.side(9);
        p.line(-2);
        p.centre(9);
        p.takes(2);
        p.keeps(1);
        p.keeps(2);
        p.back();
        int[] told = {3, 2, 0, 2, 3, 7, 9, 2, 1, 33, 22, 4, 2, 4};
        for (int w = 0; w < told.length; w++) {
            int what = w;
            check.asks("told(" + what + ")", () -> p.told(what), told[what]);
        }
        check.refused("told(-1)", () -> p.told(-1), -2);
        check.refused("told(14)", () -> p.told(14), -2);
        check.due("told(0)", p.told(0), 5);

        p = check.begin("promise 30, FULL");
        for (int k = 0; k < 10; k++) {
            p.item(1, 1, 1, 1);
        }
        check.due("told(2)", p.told(2), 2);
        check.due("told(4)", p.told(4), 8);
    }

    /** The digest from what the other calls answer; none of them is refused. */
    private static long digestOfAnswers() {
        long h = 2281;
        for (int what = 0; what <= 13; what++) {
            h = 31 * h + p.told(what);
        }
        for (int k = 0; k < p.told(4); k++) {
            for (int what = 0; what <= 9; what++) {
                h = 31 * h + p.of(k, what);
            }
        }
        for (int rank = 1; rank <= 6; rank++) {
            h = 31 * h + p.side(rank);
        }
        for (int what : new int[] {0, 1, 4}) {
            h = 31 * h + p.white(what);
        }
        for (int what = 0; what <= 2; what++) {
            h = 31 * h + p.centre(what);
        }
        return 31 * h + p.stays();
    }

    private static void digest() {
        p = check.begin("promise 31");
        check.due("digest()", p.digest(), digestOfAnswers());
        p.item(1, 2, 3, 2);
        p.item(0, 1, 2, 1);
        p.item(0, 4, 4, 4);
        check.due("digest()", p.digest(), digestOfAnswers());
        p.packs();
        p.keeps(2);
        p.sets(1, 1);
        p.of(9, 9);
        p.off(7);
        p.type(65);
        check.asks("digest()", () -> p.digest(), digestOfAnswers());
        p.sheet(7, 7);
        check.due("digest()", p.digest(), digestOfAnswers());
    }
}
