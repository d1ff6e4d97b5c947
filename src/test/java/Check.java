import java.util.function.LongSupplier;

/** Counts what is not as due, for one test. */
final class Check {
    private int asked;
    private int wrong;
    private String promise = "";
    PosterSheet sheet;

    /** Begins the checks of a promise, on a new object. */
    PosterSheet begin(String promise) {
        this.promise = promise;
        return again();
    }

    /** The same, on a sheet of W by H CELLS with MARGIN and BIG. */
    PosterSheet begin(String promise, int w, int h, int margin, int big) {
        begin(promise);
        sheet.sheet(w, h);
        sheet.sets(0, margin);
        sheet.sets(2, big);
        return sheet;
    }

    /** Goes on with a new object, as one is used for 512 calls at most. */
    PosterSheet again() {
        sheet = new PosterSheet();
        return sheet;
    }

    void due(String call, long got, long want) {
        asked++;
        if (got != want) {
            wrong++;
            System.out.println(promise + ": " + call + " answered " + got + ", due is " + want);
        }
    }

    void items(int many, int sort, int rank, int a, int b) {
        for (int i = 0; i < many; i++) {
            sheet.item(sort, rank, a, b);
        }
    }

    /** Where an ITEM lies. */
    void place(int k, int x, int y) {
        due("of(" + k + ", 4)", sheet.of(k, 4), x);
        due("of(" + k + ", 5)", sheet.of(k, 5), y);
    }

    /** WIDE and HIGH of an ITEM. */
    void size(int k, int wide, int high) {
        due("of(" + k + ", 6)", sheet.of(k, 6), wide);
        due("of(" + k + ", 7)", sheet.of(k, 7), high);
    }

    /** A question: it answers what is due and changes nothing. */
    void asks(String call, LongSupplier question, long want) {
        long before = sheet.digest();
        due(call, question.getAsLong(), want);
        due("digest() behind " + call, sheet.digest(), before);
    }

    /** A call told S: it answers what is due and leaves one STATE, which brings back all; then it is done again. */
    void changes(String call, LongSupplier change, long want) {
        int states = sheet.told(13);
        long before = sheet.digest();
        due(call, change.getAsLong(), want);
        due("told(13) behind " + call, sheet.told(13), Math.min(5, states + 1));
        if (states < 5) {
            due("back() behind " + call, sheet.back(), states);
            due("digest() behind back() of " + call, sheet.digest(), before);
            due("once more " + call, change.getAsLong(), want);
        }
    }

    /** A refused call: nothing is changed by it but how often, which moves the digest by a known power of 31. */
    void refused(String call, LongSupplier refused, long want) {
        long power = 1;
        int values = 27 + 10 * sheet.told(4);
        for (int i = 0; i < values - 1 - (PosterSheet.BAD - want); i++) {
            power *= 31;
        }
        long before = sheet.digest();
        due(call, refused.getAsLong(), want);
        due("digest() behind refused " + call, sheet.digest(), before + power);
    }

    void type(String text) {
        sheet.clear();
        for (int i = 0; i < text.length(); i++) {
            due("type of byte " + i + " of \"" + text + "\"", sheet.type(text.charAt(i)), i + 1);
        }
    }

    /** A text that is read without fault: one STATE for all. */
    void reads(String text, long want) {
        type(text);
        changes("reads() of \"" + text + "\"", () -> sheet.reads(), want);
    }

    /** A text by which nothing is done, and nothing counts. */
    void readsNothing(String text, long want) {
        type(text);
        asks("reads() of \"" + text + "\"", () -> sheet.reads(), want);
    }

    void end() {
        System.out.println(asked + " answers, " + wrong + " not as due");
        if (wrong != 0) {
            System.exit(1);
        }
    }
}
