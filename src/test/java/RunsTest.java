import java.util.ArrayList;
import java.util.Arrays;
import java.util.List;

/**
 * All promises: long runs of calls, the same on PosterSheet and on Model. The runs are always the same ones;
 * other ones may be asked for by hand: how many, and a number that they follow from.
 */
public final class RunsTest {
    private static final int RUNS = 150;
    /** An object is used for 512 calls; the last one is a digest. */
    private static final int CALLS = 511;
    /** Of each call how often it comes, and the least and the most of each of its numbers. */
    private static final Object[][] FACE = {
        {"sheet", 5, 6, 16, 6, 16}, {"sets", 12, 0, 4, 0, 2}, {"item", 10, 0, 1, 1, 6, 1, 4, 1, 4}, {"drops", 3, 0, 7},
        {"becomes", 8, 0, 7, 0, 3, 1, 3}, {"of", 6, 0, 7, 0, 9}, {"side", 2, 1, 6}, {"line", 3, 0, 6},
        {"lays", 20, 0, 7, 0, 12, 0, 12}, {"off", 3, 0, 7}, {"swaps", 6, 0, 7, 0, 7}, {"fits", 6, 0, 7, 0, 15, 0, 15},
        {"free", 8, 0, 7, 0, 3}, {"packs", 3}, {"tidies", 4}, {"stays", 4}, {"at", 4, 0, 11, 0, 11},
        {"white", 6, 0, 5}, {"centre", 4, 0, 2}, {"all", 4, 0, 3}, {"sorted", 4, 0, 1, 0, 5},
        {"keeps", 4, 0, 2}, {"takes", 4, 0, 2}, {"otherwise", 6, 0, 2, 0, 1},
        {"type", 3, 0, 127}, {"clear", 1}, {"reads", 2}, {"back", 5}, {"told", 4, 0, 13}, {"digest", 3},
    };
    private static final int[] EXTREMES = {Integer.MIN_VALUE, Integer.MAX_VALUE, -1, -7, 16, 99, 0, 7, 8, 3};
    private static final String[] PIECES = {
        "i 0 1 1 1;", "i 1 2 3 4;", "i 0 6 2 2;", "i1 3  4 2 ;", "w 9 14;", "w 16 16;", "m 0;", "g 1;", "b 30;", "b 09;",
        "r 20;", "c 4;", "c0;", "p 0 1 1;", "p 1 5 5;", "p 2 2 07;", "p 0 0 12;", "o 0;", "o 1;", "a;", " a ;", "o 9;",
    };

    private static long seed;
    private static int wrong;
    private static int asked;

    public static void main(String[] args) {
        int runs = args.length > 0 ? Integer.parseInt(args[0]) : RUNS;
        long first = args.length > 1 ? Long.parseLong(args[1]) : 7;
        for (int run = 0; run < runs; run++) {
            seed = first + 1000003L * run;
            oneRun(run);
        }
        System.out.println(asked + " answers, " + wrong + " not as due");
        if (wrong != 0) {
            System.exit(1);
        }
    }

    private static int random(int least, int most) {
        seed = seed * 6364136223846793005L + 1442695040888963407L;
        return least + (int) ((seed >>> 33) % (most - least + 1));
    }

    private static void oneRun(int run) {
        PosterSheet sheet = new PosterSheet();
        Model model = new Model();
        List<String> calls = new ArrayList<>();
        int left = CALLS;
        while (left > 0) {
            List<Object[]> next = random(0, 11) == 0 ? text() : List.<Object[]>of(call(model));
            for (Object[] c : next) {
                if (left > 0) {
                    left--;
                    String name = (String) c[0];
                    Object[] numbers = Arrays.copyOfRange(c, 1, c.length);
                    long got = Calls.answer(sheet, name, numbers);
                    long want = Calls.answer(model, name, numbers);
                    asked++;
                    calls.add(name + Arrays.toString(numbers));
                    if (got != want) {
                        tell(run, calls, got, want);
                        return;
                    }
                }
            }
        }
        if (sheet.digest() != model.digest()) {
            tell(run, calls, sheet.digest(), model.digest());
        }
    }

    private static void tell(int run, List<String> calls, long got, long want) {
        wrong++;
        int from = Math.max(0, calls.size() - 12);
        System.out.println("run " + run + ", call " + calls.size() + ": answered " + got + ", due is " + want
            + ", behind " + calls.subList(from, calls.size()));
    }

    private static Object[] call(Model model) {
        int together = 0;
        for (Object[] f : FACE) {
            together += (Integer) f[1];
        }
        int pick = random(0, together - 1);
        int i = 0;
        while (pick >= (Integer) FACE[i][1]) {
            pick -= (Integer) FACE[i][1];
            i++;
        }
        Object[] f = FACE[i];
        Object[] call = new Object[f.length / 2];
        call[0] = f[0];
        for (int n = 1; n < call.length; n++) {
            call[n] = random((Integer) f[2 * n], (Integer) f[2 * n + 1]);
        }
        makeLikely(call, model);
        if (call.length > 1 && random(0, 14) == 0) {
            call[random(1, call.length - 1)] = EXTREMES[random(0, EXTREMES.length - 1)];
        }
        return call;
    }

    /** Lets numbers that would mostly be refused be mostly taken. */
    private static void makeLikely(Object[] call, Model model) {
        int items = Math.max(1, model.told(4));
        String name = (String) call[0];
        if (List.of("drops", "becomes", "of", "lays", "off", "swaps", "fits", "free").contains(name)) {
            call[1] = random(0, items - 1);
        }
        if (name.equals("swaps")) {
            call[2] = random(0, items - 1);
        }
        if (name.equals("sets")) {
            int[] most = {2, 2, 80, 30, 6};
            int[] least = {0, 0, 10, 10, 0};
            int what = (Integer) call[1];
            call[2] = random(least[what], what == 2 && random(0, 3) > 0 ? 45 : most[what]);
        }
        if (name.equals("lays") && random(0, 2) > 0 && model.told(4) > 0) {
            int place = model.free((Integer) call[1], random(0, 2));
            call[2] = place < 0 ? 1 : place % 16;
            call[3] = place < 0 ? 1 : place / 16;
        }
    }

    /** A text typed and read; now and then with a byte too much, too little, or another one. */
    private static List<Object[]> text() {
        StringBuilder text = new StringBuilder();
        int pieces = random(0, 4);
        for (int i = 0; i < pieces; i++) {
            text.append(PIECES[random(0, PIECES.length - 1)]);
        }
        int mend = random(0, 9);
        if (mend < 3 && text.length() > 0) {
            int place = random(0, text.length() - 1);
            String bytes = "0123456789 ;;  aiwmgbrcpo";
            char c = bytes.charAt(random(0, bytes.length() - 1));
            text.replace(place, place + (mend == 0 ? 0 : 1), mend == 1 ? "" : String.valueOf(c));
        }
        List<Object[]> calls = new ArrayList<>();
        if (random(0, 5) > 0) {
            calls.add(new Object[] {"clear"});
        }
        for (char c : text.toString().toCharArray()) {
            calls.add(new Object[] {"type", (int) c});
        }
        calls.add(new Object[] {"reads"});
        calls.add(new Object[] {"digest"});
        return calls;
    }
}
