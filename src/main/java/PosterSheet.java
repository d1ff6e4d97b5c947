import java.util.Arrays;

/**
 * Posters laid out on a grid: what ../shared/DOC.md promises, in its words.
 * The words in capitals there are the names here; the README tells how the parts hang together.
 */
public final class PosterSheet {
    public static final int NONE = -1, BAD = -2, NO = -3, FULL = -4;

    /** What a check answers when it has nothing against a call. */
    private static final int FINE = 0;

    private static final int MOST_ITEMS = 8;
    private static final int MOST_KEPT = 3;
    private static final int MOST_STATES = 5;
    private static final int LEAST_SIDE = 6;
    private static final int MOST_SIDE = 16;
    private static final int MOST_CELLS = MOST_SIDE * MOST_SIDE;
    private static final int RANKS = 6;

    private static final int MARGIN = 0;
    private static final int GUTTER = 1;
    private static final int BIG = 2;
    private static final int RATIO = 3;
    private static final int COLUMNS = 4;
    private static final int SETTINGS = 5;
    private static final int[] LEAST_SETTING = {0, 0, 10, 10, 0};
    private static final int[] MOST_SETTING = {2, 2, 80, 30, 6};

    private static final int SORT = 0;
    private static final int RANK = 1;
    private static final int TRAIT_A = 2;
    private static final int TRAIT_B = 3;
    private static final int TRAITS = 4;
    private static final int[] LEAST_TRAIT = {0, 1, 1, 1};
    private static final int[] MOST_TRAIT = {1, 6, 4, 4};

    private final Layout layout;
    private final Layout trial;
    private final States states;
    private final Places places;
    private final Scales scales;
    private final White whites;
    private final Text text;
    private int bads;
    private int noes;
    private int fulls;

    public PosterSheet() {
        layout = new Layout();
        trial = new Layout();
        states = new States();
        scales = new Scales();
        places = new Places();
        whites = new White();
        text = new Text();
    }

    // ---- the sheet and its items

    public int sheet(int w, int h) {
        int refusal = layout.againstSize(w, h);
        return mayChange(refusal) ? layout.resize(w, h) : refusal;
    }

    public int sets(int what, int v) {
        int refusal = layout.againstSetting(what, v);
        return mayChange(refusal) ? layout.putSetting(what, v) : refusal;
    }

    public int item(int sort, int rank, int a, int b) {
        int refusal = layout.againstItem(sort, rank, a, b);
        return mayChange(refusal) ? layout.addItem(sort, rank, a, b) : refusal;
    }

    public int drops(int k) {
        int refusal = goodIf(layout.hasItem(k));
        return mayChange(refusal) ? layout.removeItem(k) : refusal;
    }

    public int becomes(int k, int what, int v) {
        int refusal = layout.againstTrait(k, what, v);
        return mayChange(refusal) ? layout.putTrait(k, what, v) : refusal;
    }

    public int of(int k, int what) {
        int refusal = goodIf(layout.hasItem(k) && within(what, 0, 9));
        return mayAnswer(refusal) ? layout.tellOfItem(k, what) : refusal;
    }

    public int side(int rank) {
        int refusal = goodIf(within(rank, 1, RANKS));
        return mayAnswer(refusal) ? Bits.ofFloat(layout.sideOf(rank)) : refusal;
    }

    public int line(int k) {
        int refusal = goodIf(k >= 0);
        return mayAnswer(refusal) ? layout.lineOf(k) : refusal;
    }

    // ---- where they lie

    public int lays(int k, int x, int y) {
        int refusal = layout.againstLaying(k, x, y);
        return mayChange(refusal) ? layout.lay(k, x, y) : refusal;
    }

    public int off(int k) {
        int refusal = layout.againstTakingOff(k);
        return mayChange(refusal) ? layout.takeOff(k) : refusal;
    }

    public int swaps(int j, int k) {
        int refusal = layout.againstSwap(j, k);
        return mayChange(refusal) ? layout.swap(j, k) : refusal;
    }

    public int fits(int k, int x, int y) {
        int refusal = goodIf(layout.hasItem(k) && isPlace(x, y));
        if (!mayAnswer(refusal)) {
            return refusal;
        }
        return layout.hasRoom(k, x, y) ? 1 : 0;
    }

    public int free(int k, int what) {
        int refusal = goodIf(layout.hasItem(k) && within(what, 0, 3));
        if (!mayAnswer(refusal)) {
            return refusal;
        }
        return what == 1 ? places.best(layout, scales, k) : places.tell(layout, k, what);
    }

    public int packs() {
        states.push(layout);
        return places.pack(layout);
    }

    public int tidies() {
        states.push(layout);
        return places.tidy(layout);
    }

    public int stays() {
        return places.staying(layout);
    }

    public int at(int x, int y) {
        int refusal = goodIf(within(x, 0, layout.width - 1) && within(y, 0, layout.height - 1));
        return mayAnswer(refusal) ? layout.leastOver(x, y) : refusal;
    }

    // ---- white and weight

    public int white(int what) {
        int refusal = goodIf(within(what, 0, 5));
        if (!mayAnswer(refusal)) {
            return refusal;
        }
        whites.look(layout);
        return whites.tell(what);
    }

    public long centre(int what) {
        int refusal = goodIf(within(what, 0, 2));
        if (!mayAnswer(refusal)) {
            return refusal;
        }
        scales.weighAll(layout, NONE);
        return Bits.ofDouble(scales.tell(layout, what));
    }

    public int all(int what) {
        int refusal = goodIf(within(what, 0, 3));
        return mayAnswer(refusal) ? layout.tellOfAll(what) : refusal;
    }

    public int sorted(int sort, int i) {
        int refusal = goodIf(within(sort, LEAST_TRAIT[SORT], MOST_TRAIT[SORT]) && i >= 0);
        return mayAnswer(refusal) ? layout.heaviest(sort, i) : refusal;
    }

    // ---- series

    public int keeps(int s) {
        int refusal = goodIf(within(s, 0, MOST_KEPT - 1));
        return mayChange(refusal) ? layout.series.keep(layout, s) : refusal;
    }

    public int takes(int s) {
        int refusal = layout.series.againstUse(s);
        return mayChange(refusal) ? layout.series.layAgain(layout, s) : refusal;
    }

    public int otherwise(int s, int what) {
        int refusal = within(what, 0, 1) ? layout.series.againstUse(s) : BAD;
        if (!mayAnswer(refusal)) {
            return refusal;
        }
        return what == 0 ? layout.series.unlike(layout, s) : layout.series.far(layout, s);
    }

    // ---- texts

    public int type(int c) {
        int refusal = text.againstByte(c);
        return mayAnswer(refusal) ? text.append(c) : refusal;
    }

    public int clear() {
        return text.empty();
    }

    public int reads() {
        int fault = text.findFault();
        if (fault != NONE) {
            return -10 - fault;
        }
        // On a copy, so that an ORDER that stops all leaves nothing to take back.
        trial.copyFrom(layout);
        int orders = text.orders;
        for (int i = 0; i < orders; i++) {
            if (!obeys(i)) {
                return -1000 - i;
            }
        }
        states.push(layout);
        layout.copyFrom(trial);
        return orders;
    }

    public int back() {
        int refusal = states.count > 0 ? FINE : NO;
        return mayAnswer(refusal) ? states.pop(layout) : refusal;
    }

    public int told(int what) {
        int refusal = goodIf(within(what, 0, 13));
        if (!mayAnswer(refusal)) {
            return refusal;
        }
        switch (what) {
            case 0: return bads;
            case 1: return noes;
            case 2: return fulls;
            case 3: return text.length;
            case 4: return layout.count;
            case 5: return layout.width;
            case 6: return layout.height;
            case 12: return layout.series.bits;
            case 13: return states.count;
            default: return layout.setting(what - 7);
        }
    }

    public long digest() {
        long h = 2281L;
        for (int what = 0; what <= 13; what++) {
            h = 31L * h + told(what);
        }
        for (int k = 0; k < layout.count; k++) {
            for (int what = 0; what <= 9; what++) {
                h = 31L * h + layout.tellOfItem(k, what);
            }
        }
        for (int rank = 1; rank <= RANKS; rank++) {
            h = 31L * h + side(rank);
        }
        whites.look(layout);
        h = 31L * h + whites.tell(0);
        h = 31L * h + whites.tell(1);
        h = 31L * h + whites.tell(4);
        for (int what = 0; what <= 2; what++) {
            h = 31L * h + centre(what);
        }
        return 31L * h + stays();
    }

    // ---- what the calls share

    private static boolean within(int v, int least, int most) {
        return v >= least && v <= most;
    }

    private static boolean isPlace(int x, int y) {
        return within(x, 0, MOST_SIDE - 1) && within(y, 0, MOST_SIDE - 1);
    }

    private static int goodIf(boolean asTold) {
        return asTold ? FINE : BAD;
    }

    private static int placeOf(int x, int y) {
        return MOST_SIDE * y + x;
    }

    private static int distance(int p, int q) {
        return p < q ? q - p : p - q;
    }

    /** Counts a refusal, if there is one. */
    private boolean mayAnswer(int refusal) {
        switch (refusal) {
            case BAD: bads++; break;
            case NO: noes++; break;
            case FULL: fulls++; break;
            default: break;
        }
        return refusal == FINE;
    }

    /** Counts a refusal, or leaves a STATE if there is none. */
    private boolean mayChange(int refusal) {
        boolean may = mayAnswer(refusal);
        if (may) {
            states.push(layout);
        }
        return may;
    }

    /** Does an ORDER on the trial, unless its call would refuse it; what is done answers 0 or more. */
    private boolean obeys(int order) {
        int p = text.number(order, 0);
        int q = text.number(order, 1);
        int r = text.number(order, 2);
        int s = text.number(order, 3);
        int letter = text.letter(order);
        switch (letter) {
            case 'i':
                return trial.againstItem(p, q, r, s) == FINE && trial.addItem(p, q, r, s) >= 0;
            case 'w':
                return trial.againstSize(p, q) == FINE && trial.resize(p, q) >= 0;
            case 'p':
                return trial.againstLaying(p, q, r) == FINE && trial.lay(p, q, r) >= 0;
            case 'o':
                return trial.againstTakingOff(p) == FINE && trial.takeOff(p) >= 0;
            case 'a':
                return places.pack(trial) >= 0;
            default:
                int what = Text.settingOf(letter);
                return trial.againstSetting(what, p) == FINE && trial.putSetting(what, p) >= 0;
        }
    }

    /**
     * What a STATE holds: THE SHEET with all its numbers, ITEMS, where they lie, KEPT SHEETS.
     * The checks named against.. answer FINE, or with which number the call is to be refused.
     */
    private static final class Layout {
        int width;
        int height;
        int count;
        final Series series;
        private final int[] settings;
        private final int[] traits;
        /** NONE in both: the ITEM lies nowhere. */
        private final int[] xs;
        private final int[] ys;
        /** These three follow from the numbers above and are told anew when one of those changes. */
        private final int[] wides;
        private final int[] highs;
        private int lineBits;

        Layout() {
            width = 12;
            height = 12;
            series = new Series();
            settings = new int[SETTINGS];
            settings[MARGIN] = 1;
            settings[BIG] = 40;
            settings[RATIO] = 15;
            traits = new int[MOST_ITEMS * TRAITS];
            xs = new int[MOST_ITEMS];
            ys = new int[MOST_ITEMS];
            wides = new int[MOST_ITEMS];
            highs = new int[MOST_ITEMS];
        }

        void copyFrom(Layout other) {
            if (other == null) {
                return;
            }
            width = other.width;
            height = other.height;
            count = other.count;
            lineBits = other.lineBits;
            series.copyFrom(other.series);
            System.arraycopy(other.settings, 0, settings, 0, SETTINGS);
            System.arraycopy(other.traits, 0, traits, 0, MOST_ITEMS * TRAITS);
            System.arraycopy(other.xs, 0, xs, 0, MOST_ITEMS);
            System.arraycopy(other.ys, 0, ys, 0, MOST_ITEMS);
            System.arraycopy(other.wides, 0, wides, 0, MOST_ITEMS);
            System.arraycopy(other.highs, 0, highs, 0, MOST_ITEMS);
        }

        // -- numbers and ITEMS

        boolean hasItem(int k) {
            return k >= 0 && k < count && k < MOST_ITEMS;
        }

        int setting(int what) {
            return within(what, 0, SETTINGS - 1) ? settings[what] : NONE;
        }

        int trait(int k, int what) {
            return hasItem(k) && within(what, 0, TRAITS - 1) ? traits[TRAITS * k + what] : NONE;
        }

        int againstSize(int w, int h) {
            return goodIf(within(w, LEAST_SIDE, MOST_SIDE) && within(h, LEAST_SIDE, MOST_SIDE));
        }

        int resize(int w, int h) {
            int was = 100 * width + height;
            width = w;
            height = h;
            measure();
            return was;
        }

        int againstSetting(int what, int v) {
            return goodIf(within(what, 0, SETTINGS - 1) && within(v, LEAST_SETTING[what], MOST_SETTING[what]));
        }

        int putSetting(int what, int v) {
            if (!within(what, 0, SETTINGS - 1)) {
                return BAD;
            }
            int was = settings[what];
            settings[what] = v;
            measure();
            return was;
        }

        private boolean isTrait(int what, int v) {
            return within(what, 0, TRAITS - 1) && within(v, LEAST_TRAIT[what], MOST_TRAIT[what]);
        }

        int againstItem(int sort, int rank, int a, int b) {
            if (!isTrait(SORT, sort) || !isTrait(RANK, rank) || !isTrait(TRAIT_A, a) || !isTrait(TRAIT_B, b)) {
                return BAD;
            }
            return count < MOST_ITEMS ? FINE : FULL;
        }

        int addItem(int sort, int rank, int a, int b) {
            int k = count;
            if (k < 0 || k >= MOST_ITEMS) {
                return FULL;
            }
            traits[TRAITS * k + SORT] = sort;
            traits[TRAITS * k + RANK] = rank;
            traits[TRAITS * k + TRAIT_A] = a;
            traits[TRAITS * k + TRAIT_B] = b;
            xs[k] = NONE;
            ys[k] = NONE;
            count = k + 1;
            measure();
            return k;
        }

        int removeItem(int k) {
            if (!hasItem(k)) {
                return BAD;
            }
            int behind = count - 1 - k;
            System.arraycopy(traits, TRAITS * (k + 1), traits, TRAITS * k, TRAITS * behind);
            System.arraycopy(xs, k + 1, xs, k, behind);
            System.arraycopy(ys, k + 1, ys, k, behind);
            count--;
            measure();
            return count;
        }

        int againstTrait(int k, int what, int v) {
            return goodIf(hasItem(k) && isTrait(what, v));
        }

        int putTrait(int k, int what, int v) {
            if (!hasItem(k) || !within(what, 0, TRAITS - 1)) {
                return BAD;
            }
            int was = traits[TRAITS * k + what];
            traits[TRAITS * k + what] = v;
            measure();
            return was;
        }

        // -- sizes and LINES

        float sideOf(int rank) {
            float result = (float) settings[BIG] / 10f;
            float step = (float) settings[RATIO] / 10f;
            for (int r = 2; r <= rank && step > 0f; r++) {
                result = result / step;
            }
            return result;
        }

        private static int cutToCells(float length) {
            return Math.max(1, (int) (length + 0.5f));
        }

        private void measure() {
            for (int k = 0; k < count && k < MOST_ITEMS; k++) {
                float side = sideOf(trait(k, RANK));
                int b = trait(k, TRAIT_B);
                float broad = side * (float) trait(k, TRAIT_A);
                if (trait(k, SORT) == 1 && b > 0) {
                    broad = broad / (float) b;
                }
                highs[k] = cutToCells(side);
                wides[k] = cutToCells(broad);
            }
            lineBits = 0;
            for (int k = 0; k < settings[COLUMNS]; k++) {
                lineBits |= 1 << lineOf(k);
            }
        }

        int lineOf(int k) {
            int columns = settings[COLUMNS];
            if (k < 0 || k >= columns) {
                return NONE;
            }
            float across = (float) (k * (width - 2 * settings[MARGIN]));
            return settings[MARGIN] + (int) (across / (float) columns);
        }

        int wide(int k) {
            return hasItem(k) ? wides[k] : NONE;
        }

        int high(int k) {
            return hasItem(k) ? highs[k] : NONE;
        }

        int weight(int k) {
            return hasItem(k) ? wides[k] * highs[k] * (7 - trait(k, RANK)) : 0;
        }

        // -- where ITEMS lie

        int xOf(int k) {
            return hasItem(k) ? xs[k] : NONE;
        }

        int yOf(int k) {
            return hasItem(k) ? ys[k] : NONE;
        }

        boolean lies(int k) {
            return hasItem(k) && xs[k] != NONE;
        }

        int lying() {
            return Integer.bitCount(lyingBits());
        }

        int lyingBits() {
            int bits = 0;
            for (int k = 0; k < count; k++) {
                if (lies(k)) {
                    bits |= 1 << k;
                }
            }
            return bits;
        }

        /** Lays an ITEM, fitting or not; NONE and NONE: nowhere. */
        void put(int k, int x, int y) {
            if (hasItem(k)) {
                xs[k] = x;
                ys[k] = y;
            }
        }

        /** Whether an ITEM would FIT at a place if no other one lay anywhere. */
        boolean hasRoomAlone(int k, int x, int y) {
            if (!hasItem(k)) {
                return false;
            }
            int margin = settings[MARGIN];
            if (x < margin || y < margin || x + wides[k] > width - margin || y + highs[k] > height - margin) {
                return false;
            }
            return settings[COLUMNS] == 0 || (lineBits >> x & 1) == 1;
        }

        /** Whether ITEM k at a place is apart from ITEM j, that lies somewhere. */
        boolean isApart(int k, int x, int y, int j) {
            if (!hasItem(k) || !hasItem(j)) {
                return true;
            }
            int gutter = settings[GUTTER];
            return x + wides[k] + gutter <= xs[j] || xs[j] + wides[j] + gutter <= x
                || y + highs[k] + gutter <= ys[j] || ys[j] + highs[j] + gutter <= y;
        }

        /** Whether an ITEM FITS at a place, wherever it lies now. */
        boolean hasRoom(int k, int x, int y) {
            if (!hasRoomAlone(k, x, y)) {
                return false;
            }
            for (int j = 0; j < count && j < MOST_ITEMS; j++) {
                if (j != k && xs[j] != NONE && !isApart(k, x, y, j)) {
                    return false;
                }
            }
            return true;
        }

        boolean liesWell(int k) {
            return lies(k) && hasRoom(k, xOf(k), yOf(k));
        }

        int againstLaying(int k, int x, int y) {
            if (!hasItem(k) || !isPlace(x, y)) {
                return BAD;
            }
            return hasRoom(k, x, y) ? FINE : NO;
        }

        int lay(int k, int x, int y) {
            int lay = lies(k) ? 1 : 0;
            put(k, x, y);
            return lay;
        }

        int againstTakingOff(int k) {
            if (!hasItem(k)) {
                return BAD;
            }
            return lies(k) ? FINE : NO;
        }

        int takeOff(int k) {
            put(k, NONE, NONE);
            return lying();
        }

        int againstSwap(int j, int k) {
            if (!hasItem(j) || !hasItem(k) || j == k) {
                return BAD;
            }
            return lies(j) || lies(k) ? FINE : NO;
        }

        int swap(int j, int k) {
            int x = xOf(j);
            int y = yOf(j);
            put(j, xOf(k), yOf(k));
            put(k, x, y);
            return (liesWell(j) ? 1 : 0) + (liesWell(k) ? 1 : 0);
        }

        // -- questions

        int tellOfItem(int k, int what) {
            switch (what) {
                case 4: return xOf(k);
                case 5: return yOf(k);
                case 6: return wide(k);
                case 7: return high(k);
                case 8: return weight(k);
                case 9: return liesWell(k) ? 1 : 0;
                default: return trait(k, what);
            }
        }

        int tellOfAll(int what) {
            switch (what) {
                case 0: return lyingBits();
                case 1: return badlyLyingBits();
                case 2: return lyingWeight();
                default: return lesserPairs();
            }
        }

        private int badlyLyingBits() {
            int bits = 0;
            for (int k = 0; k < count; k++) {
                if (lies(k) && !liesWell(k)) {
                    bits |= 1 << k;
                }
            }
            return bits;
        }

        private int lyingWeight() {
            int together = 0;
            for (int k = 0; k < count; k++) {
                if (lies(k)) {
                    together += weight(k);
                }
            }
            return together;
        }

        /** Pairs whose ITEM of the lesser RANK is no larger than the other one. */
        private int lesserPairs() {
            int pairs = 0;
            for (int j = 0; j < count; j++) {
                for (int k = 0; k < count; k++) {
                    if (trait(j, RANK) < trait(k, RANK) && wide(j) * high(j) <= wide(k) * high(k)) {
                        pairs++;
                    }
                }
            }
            return pairs;
        }

        int leastOver(int x, int y) {
            for (int k = 0; k < count; k++) {
                if (lies(k) && within(x - xOf(k), 0, wide(k) - 1) && within(y - yOf(k), 0, high(k) - 1)) {
                    return k;
                }
            }
            return NONE;
        }

        int heaviest(int sort, int i) {
            for (int k = 0; k < count; k++) {
                if (trait(k, SORT) == sort && howManyBefore(k) == i) {
                    return k;
                }
            }
            return NONE;
        }

        private int howManyBefore(int k) {
            int before = 0;
            for (int j = 0; j < count; j++) {
                boolean earlier = weight(j) > weight(k) || weight(j) == weight(k) && j < k;
                if (trait(j, SORT) == trait(k, SORT) && earlier) {
                    before++;
                }
            }
            return before;
        }
    }

    /** KEPT SHEETS: of each number where its ITEM lay (NONE: nowhere), WIDE and HIGH, as then. */
    private static final class Series {
        private static final int X = 0;
        private static final int Y = 1;
        private static final int WIDE = 2;
        private static final int HIGH = 3;
        private static final int PARTS = 4;

        int bits;
        private final int[] rows;

        Series() {
            rows = new int[MOST_KEPT * MOST_ITEMS * PARTS];
        }

        void copyFrom(Series other) {
            if (other == null) {
                return;
            }
            bits = other.bits;
            System.arraycopy(other.rows, 0, rows, 0, MOST_KEPT * MOST_ITEMS * PARTS);
        }

        private static boolean isRow(int s, int k) {
            return within(s, 0, MOST_KEPT - 1) && within(k, 0, MOST_ITEMS - 1);
        }

        private int then(int s, int k, int part) {
            boolean is = isRow(s, k) && within(part, 0, PARTS - 1);
            return is ? rows[(s * MOST_ITEMS + k) * PARTS + part] : NONE;
        }

        private boolean lay(int s, int k) {
            return then(s, k, X) != NONE;
        }

        int againstUse(int s) {
            if (!within(s, 0, MOST_KEPT - 1)) {
                return BAD;
            }
            return (bits >> s & 1) == 1 ? FINE : NO;
        }

        int keep(Layout layout, int s) {
            for (int k = 0; k < MOST_ITEMS && isRow(s, k); k++) {
                int row = (s * MOST_ITEMS + k) * PARTS;
                rows[row + X] = layout.xOf(k);
                rows[row + Y] = layout.yOf(k);
                rows[row + WIDE] = layout.wide(k);
                rows[row + HIGH] = layout.high(k);
            }
            bits |= 1 << s;
            return layout.lying();
        }

        int layAgain(Layout layout, int s) {
            for (int k = 0; k < layout.count; k++) {
                layout.put(k, then(s, k, X), then(s, k, Y));
            }
            return layout.lying();
        }

        private boolean isAlike(Layout layout, int s, int k) {
            return layout.xOf(k) == then(s, k, X) && layout.yOf(k) == then(s, k, Y)
                && layout.wide(k) == then(s, k, WIDE) && layout.high(k) == then(s, k, HIGH);
        }

        /** OTHERWISE. */
        int unlike(Layout layout, int s) {
            int numbers = 0;
            for (int k = 0; k < MOST_ITEMS; k++) {
                if ((layout.lies(k) || lay(s, k)) && !isAlike(layout, s, k)) {
                    numbers++;
                }
            }
            return numbers;
        }

        /** FAR. */
        int far(Layout layout, int s) {
            int together = 0;
            for (int k = 0; k < MOST_ITEMS; k++) {
                if (layout.lies(k) && lay(s, k)) {
                    together += distance(layout.xOf(k), then(s, k, X)) + distance(layout.yOf(k), then(s, k, Y));
                }
            }
            return together;
        }
    }

    /** Looks for places, in their order: by y, then by x. A place is told as 16 times y, and x. */
    private static final class Places {
        private final int[] clashes;
        private final int[] oldXs;
        private final int[] oldYs;

        Places() {
            clashes = new int[MOST_ITEMS];
            oldXs = new int[MOST_ITEMS];
            oldYs = new int[MOST_ITEMS];
        }

        /** The first place where an ITEM FITS (what 0), the last one (2), how many there are (3). */
        int tell(Layout layout, int k, int what) {
            int first = NONE;
            int last = NONE;
            int many = 0;
            for (int y = 0; y < layout.height; y++) {
                for (int x = 0; x < layout.width; x++) {
                    if (layout.hasRoom(k, x, y)) {
                        last = placeOf(x, y);
                        first = many == 0 ? last : first;
                        many++;
                    }
                }
            }
            if (what == 3) {
                return many;
            }
            return what == 2 ? last : first;
        }

        int best(Layout layout, Scales scales, int k) {
            int best = NONE;
            double least = 0.0;
            scales.weighAll(layout, k);
            for (int y = 0; y < layout.height; y++) {
                for (int x = 0; x < layout.width; x++) {
                    if (layout.hasRoom(k, x, y)) {
                        double balance = scales.balanceWith(layout, k, x, y);
                        if (best == NONE || balance < least) {
                            best = placeOf(x, y);
                            least = balance;
                        }
                    }
                }
            }
            return best;
        }

        private int first(Layout layout, int k) {
            for (int y = 0; y < layout.height; y++) {
                for (int x = 0; x < layout.width; x++) {
                    if (layout.hasRoom(k, x, y)) {
                        return placeOf(x, y);
                    }
                }
            }
            return NONE;
        }

        private int nearest(Layout layout, int k, int toX, int toY) {
            int nearest = NONE;
            int least = 0;
            for (int y = 0; y < layout.height; y++) {
                for (int x = 0; x < layout.width; x++) {
                    int away = distance(x, toX) + distance(y, toY);
                    if ((nearest == NONE || away < least) && layout.hasRoom(k, x, y)) {
                        nearest = placeOf(x, y);
                        least = away;
                    }
                }
            }
            return nearest;
        }

        /** Lays an ITEM at a place, or leaves it nowhere if there is none. */
        private static void putAt(Layout layout, int k, int place) {
            if (place != NONE) {
                layout.put(k, place % MOST_SIDE, place / MOST_SIDE);
            }
        }

        int pack(Layout layout) {
            for (int k = 0; k < layout.count; k++) {
                layout.put(k, NONE, NONE);
            }
            for (int rank = 1; rank <= RANKS; rank++) {
                for (int k = 0; k < layout.count; k++) {
                    if (layout.trait(k, RANK) == rank) {
                        putAt(layout, k, first(layout, k));
                    }
                }
            }
            return layout.lying();
        }

        int tidy(Layout layout) {
            int stayed = staying(layout);
            int moved = layout.lyingBits() & ~stayed;
            takeOffAll(layout, moved);
            for (int rank = 1; rank <= RANKS; rank++) {
                for (int k = 0; k < MOST_ITEMS; k++) {
                    if ((moved >> k & 1) == 1 && layout.trait(k, RANK) == rank) {
                        putAt(layout, k, nearest(layout, k, oldXs[k], oldYs[k]));
                    }
                }
            }
            return Integer.bitCount(stayed);
        }

        private void takeOffAll(Layout layout, int bits) {
            for (int k = 0; k < MOST_ITEMS; k++) {
                oldXs[k] = layout.xOf(k);
                oldYs[k] = layout.yOf(k);
                if ((bits >> k & 1) == 1) {
                    layout.put(k, NONE, NONE);
                }
            }
        }

        /** The set that STAYS. Sets come in the order of their bits, so that of like ones the first is kept. */
        int staying(Layout layout) {
            int able = findClashes(layout);
            int best = 0;
            int most = 0;
            for (int set = 1; set < 1 << MOST_ITEMS; set++) {
                if ((set & ~able) == 0 && hasNoClash(set)) {
                    int weight = weightOf(layout, set);
                    boolean more = Integer.bitCount(set) > Integer.bitCount(best);
                    if (weight > most || weight == most && more) {
                        best = set;
                        most = weight;
                    }
                }
            }
            return best;
        }

        /** Notes of each ITEM which ones it is not apart from; answers those that would FIT alone where they lie. */
        private int findClashes(Layout layout) {
            int able = 0;
            for (int k = 0; k < MOST_ITEMS; k++) {
                clashes[k] = 0;
                if (layout.lies(k) && layout.hasRoomAlone(k, layout.xOf(k), layout.yOf(k))) {
                    able |= 1 << k;
                }
                for (int j = 0; j < MOST_ITEMS; j++) {
                    if (j != k && !layout.isApart(k, layout.xOf(k), layout.yOf(k), j)) {
                        clashes[k] |= 1 << j;
                    }
                }
            }
            return able;
        }

        private boolean hasNoClash(int set) {
            for (int k = 0; k < MOST_ITEMS; k++) {
                if ((set >> k & 1) == 1 && (set & clashes[k]) != 0) {
                    return false;
                }
            }
            return true;
        }

        private static int weightOf(Layout layout, int set) {
            int together = 0;
            for (int k = 0; k < MOST_ITEMS; k++) {
                if ((set >> k & 1) == 1) {
                    together += layout.weight(k);
                }
            }
            return together;
        }
    }

    /**
     * CENTRE and BALANCE. What is added up are halves far below 2 to the 53rd, so every sum is exact,
     * whichever ITEM is added last.
     */
    private static final class Scales {
        private double weights;
        private double acrosses;
        private double downs;

        /** Weighs all ITEMS that lie somewhere but one (NONE: all). */
        void weighAll(Layout layout, int but) {
            weights = 0.0;
            acrosses = 0.0;
            downs = 0.0;
            for (int k = 0; k < layout.count; k++) {
                if (k != but && layout.lies(k)) {
                    add(layout, k, layout.xOf(k), layout.yOf(k));
                }
            }
        }

        private void add(Layout layout, int k, int x, int y) {
            double weight = (double) layout.weight(k);
            weights = weights + weight;
            acrosses = acrosses + weight * ((double) x + (double) layout.wide(k) / 2.0);
            downs = downs + weight * ((double) y + (double) layout.high(k) / 2.0);
        }

        private double centreX(Layout layout) {
            return weights > 0.0 ? acrosses / weights : (double) layout.width / 2.0;
        }

        private double centreY(Layout layout) {
            return weights > 0.0 ? downs / weights : (double) layout.height / 2.0;
        }

        private double balance(Layout layout) {
            double across = centreX(layout) - (double) layout.width / 2.0;
            double down = centreY(layout) - (double) layout.height / 2.0;
            return across * across + down * down;
        }

        /** BALANCE, if one more ITEM lay at a place. */
        double balanceWith(Layout layout, int k, int x, int y) {
            double weightsWere = weights;
            double acrossesWere = acrosses;
            double downsWere = downs;
            add(layout, k, x, y);
            double balance = balance(layout);
            weights = weightsWere;
            acrosses = acrossesWere;
            downs = downsWere;
            return balance;
        }

        double tell(Layout layout, int what) {
            switch (what) {
                case 0: return centreX(layout);
                case 1: return centreY(layout);
                default: return balance(layout);
            }
        }
    }

    /** WHITE: its CELLS, its greatest BLOCK, its PARTS, as they were at the last look. */
    private static final class White {
        private int width;
        private int height;
        private int cells;
        private int blockCells;
        private int blockPlace;
        private int blockWidth;
        private int parts;
        private int queued;
        /** How many CELLS are WHITE from a place on to the right. */
        private final int[] runs;
        private final int[] open;
        private final int[] queue;

        White() {
            runs = new int[MOST_CELLS];
            open = new int[MOST_CELLS];
            queue = new int[MOST_CELLS];
        }

        void look(Layout layout) {
            width = Math.min(MOST_SIDE, layout.width);
            height = Math.min(MOST_SIDE, layout.height);
            Arrays.fill(open, 1);
            for (int k = 0; k < layout.count; k++) {
                if (layout.lies(k)) {
                    cover(layout, k);
                }
            }
            countCells();
            findBlock();
            countParts();
        }

        int tell(int what) {
            switch (what) {
                case 0: return cells;
                case 1: return blockCells;
                case 2: return blockPlace;
                case 3: return blockWidth;
                case 4: return parts;
                default: return Bits.ofFloat(share());
            }
        }

        private float share() {
            int all = width * height;
            return all > 0 ? (float) cells / (float) all : 0f;
        }

        private void cover(Layout layout, int k) {
            int right = Math.min(width, layout.xOf(k) + layout.wide(k));
            int below = Math.min(height, layout.yOf(k) + layout.high(k));
            for (int y = Math.max(0, layout.yOf(k)); y < below; y++) {
                for (int x = Math.max(0, layout.xOf(k)); x < right; x++) {
                    open[placeOf(x, y)] = 0;
                }
            }
        }

        private void countCells() {
            cells = 0;
            for (int y = 0; y < height; y++) {
                int run = 0;
                for (int x = width - 1; x >= 0; x--) {
                    int place = placeOf(x, y);
                    run = open[place] == 1 ? run + 1 : 0;
                    runs[place] = run;
                    cells += open[place];
                }
            }
        }

        private void findBlock() {
            blockCells = 0;
            blockPlace = NONE;
            blockWidth = NONE;
            for (int y = 0; y < height; y++) {
                for (int x = 0; x < width; x++) {
                    tryBlocks(x, y);
                }
            }
        }

        /** From one place a higher BLOCK is never wider, so of like ones the first is the widest. */
        private void tryBlocks(int x, int y) {
            int narrow = width;
            for (int below = y; below < height && narrow > 0; below++) {
                narrow = Math.min(narrow, runs[placeOf(x, below)]);
                int size = narrow * (below - y + 1);
                if (size > blockCells) {
                    blockCells = size;
                    blockPlace = placeOf(x, y);
                    blockWidth = narrow;
                }
            }
        }

        /** Closes every open CELL; one that no earlier one led to begins a new part. */
        private void countParts() {
            parts = 0;
            queued = 0;
            for (int y = 0; y < height; y++) {
                for (int x = 0; x < width; x++) {
                    int next = queued;
                    reach(x, y);
                    if (queued > next) {
                        parts++;
                        spread(next);
                    }
                }
            }
        }

        private void spread(int from) {
            for (int next = from; next >= 0 && next < queued && next < MOST_CELLS; next++) {
                int x = queue[next] % MOST_SIDE;
                int y = queue[next] / MOST_SIDE;
                reach(x - 1, y);
                reach(x + 1, y);
                reach(x, y - 1);
                reach(x, y + 1);
            }
        }

        private void reach(int x, int y) {
            if (!within(x, 0, width - 1) || !within(y, 0, height - 1) || queued >= MOST_CELLS) {
                return;
            }
            int place = placeOf(x, y);
            if (open[place] == 1) {
                open[place] = 0;
                queue[queued] = place;
                queued++;
            }
        }
    }

    /** The STATES to go back to, the latest last, in a ring. */
    private static final class States {
        int count;
        private int oldest;
        private final Layout[] ring;

        States() {
            ring = new Layout[MOST_STATES];
            for (int i = 0; i < MOST_STATES; i++) {
                ring[i] = new Layout();
            }
        }

        void push(Layout layout) {
            if (count == MOST_STATES) {
                oldest = (oldest + 1) % MOST_STATES;
                count--;
            }
            Layout next = ring[(oldest + count) % MOST_STATES];
            if (next != null) {
                next.copyFrom(layout);
                count++;
            }
        }

        int pop(Layout layout) {
            if (count > 0) {
                count--;
                layout.copyFrom(ring[(oldest + count) % MOST_STATES]);
            }
            return count;
        }
    }

    /** THE TEXT, and the ORDERS that were found in it last. */
    private static final class Text {
        private static final int ROOM = 120;
        /** The shortest ORDER is a letter and its end. */
        private static final int MOST_ORDERS = ROOM / 2;
        private static final int NUMBERS = 4;
        private static final int BLANK = 32;
        private static final int END = -1;

        int length;
        int orders;
        private int place;
        private final int[] bytes;
        private final int[] letters;
        private final int[] numbers;

        Text() {
            bytes = new int[ROOM];
            letters = new int[MOST_ORDERS];
            numbers = new int[MOST_ORDERS * NUMBERS];
        }

        int againstByte(int c) {
            if (!within(c, 0, 127)) {
                return BAD;
            }
            return length < ROOM ? FINE : FULL;
        }

        int append(int c) {
            if (length >= 0 && length < ROOM) {
                bytes[length] = c;
                length++;
            }
            return length;
        }

        int empty() {
            int had = length;
            length = 0;
            return had;
        }

        int letter(int order) {
            return within(order, 0, MOST_ORDERS - 1) ? letters[order] : END;
        }

        int number(int order, int i) {
            boolean is = within(order, 0, MOST_ORDERS - 1) && within(i, 0, NUMBERS - 1);
            return is ? numbers[order * NUMBERS + i] : NONE;
        }

        static int settingOf(int letter) {
            switch (letter) {
                case 'm': return MARGIN;
                case 'g': return GUTTER;
                case 'b': return BIG;
                case 'r': return RATIO;
                case 'c': return COLUMNS;
                default: return NONE;
            }
        }

        private static int numbersBehind(int letter) {
            switch (letter) {
                case 'i': return 4;
                case 'p': return 3;
                case 'w': return 2;
                case 'o': return 1;
                case 'a': return 0;
                default: return settingOf(letter) == NONE ? NONE : 1;
            }
        }

        /** The FAULT; NONE: all ORDERS are found. */
        int findFault() {
            place = 0;
            orders = 0;
            skipBlanks();
            if (place >= length) {
                return length;
            }
            for (int i = 0; i < MOST_ORDERS && place < length; i++) {
                if (!findOrder(i)) {
                    return place;
                }
                orders++;
                skipBlanks();
            }
            return NONE;
        }

        private int here() {
            return place >= 0 && place < length && place < ROOM ? bytes[place] : END;
        }

        private boolean isFigureHere() {
            return within(here(), '0', '9');
        }

        private void skipBlanks() {
            for (int i = 0; i < ROOM && here() == BLANK; i++) {
                place++;
            }
        }

        private boolean findOrder(int order) {
            int letter = here();
            int behind = numbersBehind(letter);
            if (behind == NONE || !within(order, 0, MOST_ORDERS - 1)) {
                return false;
            }
            letters[order] = letter;
            place++;
            for (int i = 0; i < behind && i < NUMBERS; i++) {
                skipBlanks();
                if (!findNumber(order * NUMBERS + i)) {
                    return false;
                }
            }
            skipBlanks();
            if (here() != ';') {
                return false;
            }
            place++;
            return true;
        }

        private boolean findNumber(int slot) {
            if (!isFigureHere() || !within(slot, 0, MOST_ORDERS * NUMBERS - 1)) {
                return false;
            }
            int v = here() - '0';
            place++;
            if (isFigureHere()) {
                v = 10 * v + here() - '0';
                place++;
            }
            numbers[slot] = v;
            return !isFigureHere();
        }
    }

    /** The bits of a float, of a double: 0, or above it and not so small that figures are lost. */
    private static final class Bits {
        private static final int FLOAT_MIDDLE = 127;
        private static final int DOUBLE_MIDDLE = 1023;

        /** Doubling and halving are exact, so what is left between 1 and 2 has the very figures of v. */
        static int ofFloat(float v) {
            if (!(v > 0f)) {
                return 0;
            }
            float rest = v;
            int exponent = FLOAT_MIDDLE;
            for (int i = 0; i < FLOAT_MIDDLE && rest >= 2f; i++) {
                rest = rest / 2f;
                exponent++;
            }
            for (int i = 0; i < FLOAT_MIDDLE && rest < 1f; i++) {
                rest = rest * 2f;
                exponent--;
            }
            return (exponent << 23) + (int) ((rest - 1f) * 8388608f);
        }

        static long ofDouble(double v) {
            if (!(v > 0.0)) {
                return 0L;
            }
            double rest = v;
            long exponent = DOUBLE_MIDDLE;
            for (int i = 0; i < DOUBLE_MIDDLE && rest >= 2.0; i++) {
                rest = rest / 2.0;
                exponent++;
            }
            for (int i = 0; i < DOUBLE_MIDDLE && rest < 1.0; i++) {
                rest = rest * 2.0;
                exponent--;
            }
            return (exponent << 52) + (long) ((rest - 1.0) * 4503599627370496.0);
        }
    }
}
