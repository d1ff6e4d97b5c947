/** Promises 23 to 25: series. */
public final class SeriesTest {
    private static final Check check = new Check();
    private static PosterSheet p;

    public static void main(String[] args) {
        keeps();
        takes();
        takesOfOtherNumbers();
        takesWhatDoesNotFit();
        otherwise();
        otherwiseOfSizes();
        check.end();
    }

    private static void keeps() {
        p = check.begin("promise 23");
        check.changes("keeps(0) of none", () -> p.keeps(0), 0);
        check.due("told(12)", p.told(12), 1);
        p.item(0, 3, 1, 1);
        p.item(0, 3, 1, 1);
        p.lays(1, 4, 4);
        check.changes("keeps(2)", () -> p.keeps(2), 1);
        check.due("told(12)", p.told(12), 5);
        check.due("otherwise(0, 0)", p.otherwise(0, 0), 1);
        check.due("otherwise(2, 0)", p.otherwise(2, 0), 0);
        p.lays(0, 1, 1);
        check.due("keeps(0) again", p.keeps(0), 2);
        check.due("told(12)", p.told(12), 5);
        check.due("otherwise(0, 0)", p.otherwise(0, 0), 0);
        check.due("otherwise(2, 0)", p.otherwise(2, 0), 1);
        check.due("back()", p.back(), 4);
        check.due("otherwise(0, 0) behind back()", p.otherwise(0, 0), 2);
        check.refused("keeps(-1)", () -> p.keeps(-1), -2);
        check.refused("keeps(3)", () -> p.keeps(3), -2);
        check.due("told(12)", p.told(12), 5);
    }

    private static void takes() {
        p = check.begin("promise 24");
        p.item(0, 3, 1, 1);
        p.item(0, 3, 1, 1);
        p.lays(0, 1, 1);
        p.lays(1, 5, 6);
        p.keeps(1);
        p.back();
        p.back();
        p.back();
        p.lays(1, 5, 6);
        p.keeps(1);
        check.refused("takes(0)", () -> p.takes(0), -3);
        check.refused("takes(2)", () -> p.takes(2), -3);
        check.refused("takes(-1)", () -> p.takes(-1), -2);
        check.refused("takes(3)", () -> p.takes(3), -2);
        p.lays(0, 8, 8);
        p.off(1);
        check.due("takes(1)", p.takes(1), 1);
        check.place(0, -1, -1);
        check.place(1, 5, 6);
        check.due("told(13)", p.told(13), 5);
        check.due("back()", p.back(), 4);
        check.place(0, 8, 8);
        check.place(1, -1, -1);

        p = check.begin("promise 24, one STATE");
        p.item(0, 3, 1, 1);
        p.keeps(2);
        p.lays(0, 8, 8);
        check.changes("takes(2)", () -> p.takes(2), 0);
        check.place(0, -1, -1);
    }

    private static void takesOfOtherNumbers() {
        p = check.begin("promise 24, other numbers");
        p.item(0, 3, 1, 1);
        p.item(1, 4, 2, 2);
        p.lays(0, 1, 1);
        p.lays(1, 7, 8);
        p.keeps(0);
        p.item(0, 5, 1, 1);
        p.lays(2, 10, 10);
        check.due("takes(0): no place for 2", p.takes(0), 2);
        check.place(2, -1, -1);
        p.drops(0);
        p.drops(0);
        check.due("takes(0): the one that is left is 0 now", p.takes(0), 1);
        check.place(0, 1, 1);
        p.item(0, 5, 1, 1);
        p.sheet(16, 16);
        check.due("takes(0): a new one is 1 now", p.takes(0), 2);
        check.place(1, 7, 8);
        check.due("told(5): THE SHEET stays", p.told(5), 16);
        check.due("of(1, 1): what it is stays", p.of(1, 1), 5);
    }

    private static void takesWhatDoesNotFit() {
        p = check.begin("promise 24, whether they FIT or not");
        p.sheet(16, 16);
        p.item(0, 3, 1, 1);
        p.item(0, 3, 1, 1);
        p.lays(0, 13, 13);
        p.lays(1, 1, 1);
        p.keeps(2);
        p.sheet(6, 6);
        p.off(0);
        check.due("takes(2)", p.takes(2), 2);
        check.place(0, 13, 13);
        check.due("all(1)", p.all(1), 1);
        check.due("white(0): nothing of it is on THE SHEET", p.white(0), 32);
    }

    private static void otherwise() {
        p = check.begin("promise 25");
        check.refused("otherwise(0, 0)", () -> p.otherwise(0, 0), -3);
        check.refused("otherwise(2, 1)", () -> p.otherwise(2, 1), -3);
        check.refused("otherwise(0, 2), BAD before NO", () -> p.otherwise(0, 2), -2);
        for (int k = 0; k < 4; k++) {
            p.item(0, 3, 1, 1);
        }
        p.lays(0, 1, 1);
        p.lays(1, 3, 1);
        p.lays(2, 5, 1);
        p.keeps(1);
        check.asks("otherwise(1, 0)", () -> p.otherwise(1, 0), 0);
        check.asks("otherwise(1, 1)", () -> p.otherwise(1, 1), 0);
        p.lays(0, 3, 8);
        check.asks("otherwise(1, 0): one lies elsewhere", () -> p.otherwise(1, 0), 1);
        check.asks("otherwise(1, 1)", () -> p.otherwise(1, 1), 2 + 7);
        p.off(1);
        check.asks("otherwise(1, 0): one lies then alone", () -> p.otherwise(1, 0), 2);
        check.asks("otherwise(1, 1)", () -> p.otherwise(1, 1), 9);
        p.lays(3, 9, 9);
        check.asks("otherwise(1, 0): one lies now alone", () -> p.otherwise(1, 0), 3);
        check.asks("otherwise(1, 1)", () -> p.otherwise(1, 1), 9);
        p.drops(2);
        check.asks("otherwise(1, 0): the fourth one is 2 now", () -> p.otherwise(1, 0), 3);
        check.asks("otherwise(1, 1)", () -> p.otherwise(1, 1), 9 + 4 + 8);
        p.lays(1, 2, 1);
        check.asks("otherwise(1, 1): nearer to the left, without signs", () -> p.otherwise(1, 1), 9 + 1 + 12);
        check.refused("otherwise(-1, 0)", () -> p.otherwise(-1, 0), -2);
        check.refused("otherwise(3, 0)", () -> p.otherwise(3, 0), -2);
        check.refused("otherwise(1, -1)", () -> p.otherwise(1, -1), -2);
        check.refused("otherwise(1, 2)", () -> p.otherwise(1, 2), -2);
        check.refused("otherwise(0, 0)", () -> p.otherwise(0, 0), -3);
    }

    private static void otherwiseOfSizes() {
        p = check.begin("promise 25, sizes");
        p.item(0, 1, 1, 1);
        p.item(1, 2, 2, 2);
        p.lays(0, 1, 1);
        p.keeps(0);
        p.becomes(1, 2, 4);
        check.asks("otherwise(0, 0): it lies neither time", () -> p.otherwise(0, 0), 0);
        p.becomes(0, 2, 2);
        check.asks("otherwise(0, 0): WIDE", () -> p.otherwise(0, 0), 1);
        check.asks("otherwise(0, 1): it is not moved", () -> p.otherwise(0, 1), 0);
        p.becomes(0, 2, 1);
        check.asks("otherwise(0, 0): as then", () -> p.otherwise(0, 0), 0);
        p.sets(2, 50);
        p.becomes(0, 0, 1);
        p.becomes(0, 2, 4);
        p.becomes(0, 3, 4);
        check.asks("otherwise(0, 0): WIDE and HIGH", () -> p.otherwise(0, 0), 1);
        p.sets(2, 40);
        check.asks("otherwise(0, 0): a and b alone", () -> p.otherwise(0, 0), 0);
        p.sets(2, 30);
        p.becomes(0, 2, 4);
        p.becomes(0, 3, 3);
        // A SIDE of 3.0: 4 WIDE as then, 3 HIGH.
        check.due("of(0, 6)", p.of(0, 6), 4);
        check.asks("otherwise(0, 0): HIGH", () -> p.otherwise(0, 0), 1);
    }
}
