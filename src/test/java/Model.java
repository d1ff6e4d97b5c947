import java.util.ArrayDeque;
import java.util.ArrayList;
import java.util.Arrays;
import java.util.Collections;
import java.util.Comparator;
import java.util.Deque;
import java.util.List;
import java.util.regex.Matcher;
import java.util.regex.Pattern;

/**
 * The document once more, by other means and without care for speed: painted grids, every rectangle,
 * every set, regular expressions, whole copies. RunsTest lays its answers beside those of PosterSheet.
 */
public final class Model {
    private static final int NONE = -1;
    private static final int BAD = -2;
    private static final int NO = -3;
    private static final int FULL = -4;
    private static final int[][] SETTINGS = {{0, 2}, {0, 2}, {10, 80}, {10, 30}, {0, 6}};
    private static final int[][] TRAITS = {{0, 1}, {1, 6}, {1, 4}, {1, 4}};
    private static final String N = "[0-9]{1,2}";
    private static final String ORDER = "(?:i *" + N + " +" + N + " +" + N + " +" + N + "|w *" + N + " +" + N
        + "|[mgbrco] *" + N + "|p *" + N + " +" + N + " +" + N + "|a) *; *";
    private static final Pattern TEXT = Pattern.compile(" *(?:" + ORDER + ")+");

    /** An item: its traits and where it lies, as it is told. */
    private record Poster(int sort, int rank, int a, int b, int x, int y) {
        boolean lies() {
            return x >= 0;
        }

        Poster to(int x, int y) {
            return new Poster(sort, rank, a, b, x, y);
        }

        Poster with(int what, int v) {
            return new Poster(what == 0 ? v : sort, what == 1 ? v : rank, what == 2 ? v : a, what == 3 ? v : b, x, y);
        }

        int trait(int what) {
            return new int[] {sort, rank, a, b}[what];
        }
    }

    private record Then(int x, int y, int wide, int high) {
    }

    private record Place(int x, int y) {
        int number() {
            return 16 * y + x;
        }
    }

    private record State(int w, int h, List<Integer> settings, List<Poster> posters, List<List<Then>> kept) {
    }

    private State now = new State(12, 12, List.of(1, 0, 40, 15, 0), List.of(),
        Collections.unmodifiableList(Arrays.asList(null, null, null)));
    private final Deque<State> states = new ArrayDeque<>();
    private final int[] refused = new int[3];
    private String text = "";

    private int refuse(int code) {
        refused[-2 - code]++;
        return code;
    }

    private void change(State to) {
        states.addLast(now);
        if (states.size() > 5) {
            states.removeFirst();
        }
        now = to;
    }

    private static boolean in(int v, int least, int most) {
        return least <= v && v <= most;
    }

    private boolean has(int k) {
        return in(k, 0, now.posters.size() - 1);
    }

    private State withPosters(List<Poster> posters) {
        return new State(now.w, now.h, now.settings, List.copyOf(posters), now.kept);
    }

    private State withPoster(int k, Poster poster) {
        List<Poster> posters = new ArrayList<>(now.posters);
        posters.set(k, poster);
        return withPosters(posters);
    }

    // sizes

    private float sideOf(int rank) {
        float big = now.settings.get(2);
        float ratio = now.settings.get(3);
        return rank == 1 ? big / 10f : sideOf(rank - 1) / (ratio / 10f);
    }

    private int wide(Poster p) {
        float wide = sideOf(p.rank) * p.a;
        wide = p.sort == 0 ? wide : wide / p.b;
        return Math.max(1, (int) Math.floor(wide + 0.5f));
    }

    private int high(Poster p) {
        return Math.max(1, (int) Math.floor(sideOf(p.rank) + 0.5f));
    }

    private int weight(Poster p) {
        return wide(p) * high(p) * (7 - p.rank);
    }

    private List<Integer> lines() {
        List<Integer> lines = new ArrayList<>();
        int columns = now.settings.get(4);
        int margin = now.settings.get(0);
        for (int k = 0; k < columns; k++) {
            lines.add(margin + k * (now.w - 2 * margin) / columns);
        }
        return lines;
    }

    // fitting

    /** The places (from -8 on) that no item of these may cover beside them, painted. */
    private boolean[][] paint(List<Poster> others) {
        boolean[][] grid = new boolean[64][64];
        int gutter = now.settings.get(1);
        for (Poster o : others) {
            if (o.lies()) {
                for (int y = o.y - gutter; y < o.y + high(o) + gutter; y++) {
                    for (int x = o.x - gutter; x < o.x + wide(o) + gutter; x++) {
                        grid[y + 8][x + 8] = true;
                    }
                }
            }
        }
        return grid;
    }

    private List<Poster> butOne(int k) {
        List<Poster> others = new ArrayList<>(now.posters);
        others.remove(k);
        return others;
    }

    private boolean fitsOn(boolean[][] grid, Poster p, int x, int y) {
        List<Integer> lines = lines();
        if (!lines.isEmpty() && !lines.contains(x)) {
            return false;
        }
        int margin = now.settings.get(0);
        int wide = wide(p);
        int high = high(p);
        for (int cy = y; cy < y + high; cy++) {
            for (int cx = x; cx < x + wide; cx++) {
                boolean inside = in(cx, margin, now.w - 1 - margin) && in(cy, margin, now.h - 1 - margin);
                if (!inside || grid[cy + 8][cx + 8]) {
                    return false;
                }
            }
        }
        return true;
    }

    private boolean fitting(int k) {
        Poster p = now.posters.get(k);
        return p.lies() && fitsOn(paint(butOne(k)), p, p.x, p.y);
    }

    private List<Place> places(int k) {
        List<Place> places = new ArrayList<>();
        boolean[][] grid = paint(butOne(k));
        for (int n = 0; n < 256; n++) {
            if (fitsOn(grid, now.posters.get(k), n % 16, n / 16)) {
                places.add(new Place(n % 16, n / 16));
            }
        }
        return places;
    }

    private List<Integer> byRank(List<Integer> numbers) {
        List<Integer> sorted = new ArrayList<>(numbers);
        sorted.sort(Comparator.comparingInt(k -> now.posters.get(k).rank));
        return sorted;
    }

    private List<Integer> numbers() {
        List<Integer> numbers = new ArrayList<>();
        for (int k = 0; k < now.posters.size(); k++) {
            numbers.add(k);
        }
        return numbers;
    }

    private int lying() {
        return (int) now.posters.stream().filter(Poster::lies).count();
    }

    // the sheet and its items

    public int sheet(int w, int h) {
        if (!in(w, 6, 16) || !in(h, 6, 16)) {
            return refuse(BAD);
        }
        int was = now.w * 100 + now.h;
        change(new State(w, h, now.settings, now.posters, now.kept));
        return was;
    }

    public int sets(int what, int v) {
        if (!in(what, 0, 4) || !in(v, SETTINGS[what][0], SETTINGS[what][1])) {
            return refuse(BAD);
        }
        List<Integer> settings = new ArrayList<>(now.settings);
        int was = settings.set(what, v);
        change(new State(now.w, now.h, List.copyOf(settings), now.posters, now.kept));
        return was;
    }

    public int item(int sort, int rank, int a, int b) {
        int[] all = {sort, rank, a, b};
        for (int what = 0; what < 4; what++) {
            if (!in(all[what], TRAITS[what][0], TRAITS[what][1])) {
                return refuse(BAD);
            }
        }
        if (now.posters.size() == 8) {
            return refuse(FULL);
        }
        List<Poster> posters = new ArrayList<>(now.posters);
        posters.add(new Poster(sort, rank, a, b, NONE, NONE));
        change(withPosters(posters));
        return posters.size() - 1;
    }

    public int drops(int k) {
        if (!has(k)) {
            return refuse(BAD);
        }
        change(withPosters(butOne(k)));
        return now.posters.size();
    }

    public int becomes(int k, int what, int v) {
        if (!has(k) || !in(what, 0, 3) || !in(v, TRAITS[what][0], TRAITS[what][1])) {
            return refuse(BAD);
        }
        Poster p = now.posters.get(k);
        change(withPoster(k, p.with(what, v)));
        return p.trait(what);
    }

    public int of(int k, int what) {
        if (!has(k) || !in(what, 0, 9)) {
            return refuse(BAD);
        }
        Poster p = now.posters.get(k);
        int[] all = {p.sort, p.rank, p.a, p.b, p.x, p.y, wide(p), high(p), weight(p), fitting(k) ? 1 : 0};
        return all[what];
    }

    public int side(int rank) {
        return in(rank, 1, 6) ? Float.floatToIntBits(sideOf(rank)) : refuse(BAD);
    }

    public int line(int k) {
        if (k < 0) {
            return refuse(BAD);
        }
        return k < lines().size() ? lines().get(k) : NONE;
    }

    // where they lie

    public int lays(int k, int x, int y) {
        if (!has(k) || !in(x, 0, 15) || !in(y, 0, 15)) {
            return refuse(BAD);
        }
        Poster p = now.posters.get(k);
        if (!fitsOn(paint(butOne(k)), p, x, y)) {
            return refuse(NO);
        }
        change(withPoster(k, p.to(x, y)));
        return p.lies() ? 1 : 0;
    }

    public int off(int k) {
        if (!has(k)) {
            return refuse(BAD);
        }
        if (!now.posters.get(k).lies()) {
            return refuse(NO);
        }
        change(withPoster(k, now.posters.get(k).to(NONE, NONE)));
        return lying();
    }

    public int swaps(int j, int k) {
        if (!has(j) || !has(k) || j == k) {
            return refuse(BAD);
        }
        Poster p = now.posters.get(j);
        Poster q = now.posters.get(k);
        if (!p.lies() && !q.lies()) {
            return refuse(NO);
        }
        List<Poster> posters = new ArrayList<>(now.posters);
        posters.set(j, p.to(q.x, q.y));
        posters.set(k, q.to(p.x, p.y));
        change(withPosters(posters));
        return (fitting(j) ? 1 : 0) + (fitting(k) ? 1 : 0);
    }

    public int fits(int k, int x, int y) {
        if (!has(k) || !in(x, 0, 15) || !in(y, 0, 15)) {
            return refuse(BAD);
        }
        return places(k).contains(new Place(x, y)) ? 1 : 0;
    }

    public int free(int k, int what) {
        if (!has(k) || !in(what, 0, 3)) {
            return refuse(BAD);
        }
        List<Place> places = places(k);
        if (what == 3) {
            return places.size();
        }
        if (places.isEmpty()) {
            return NONE;
        }
        if (what == 1) {
            Comparator<Place> byBalance = Comparator.comparingDouble(
                p -> centres(withPoster(k, now.posters.get(k).to(p.x, p.y)))[2]);
            return Collections.min(places, byBalance).number();
        }
        return places.get(what == 0 ? 0 : places.size() - 1).number();
    }

    private State packed() {
        State was = now;
        List<Poster> posters = new ArrayList<>();
        now.posters.forEach(p -> posters.add(p.to(NONE, NONE)));
        now = withPosters(posters);
        layEach(byRank(numbers()), Collections.nCopies(8, null));
        State packed = now;
        now = was;
        return packed;
    }

    /** Lays these where they fit nearest to where they were, or, if that is null, at the first place. */
    private void layEach(List<Integer> numbers, List<Poster> were) {
        for (int k : numbers) {
            List<Place> places = places(k);
            Poster was = were.get(k);
            Comparator<Place> nearest = Comparator.comparingInt(
                p -> was == null ? 0 : Math.abs(p.x - was.x) + Math.abs(p.y - was.y));
            if (!places.isEmpty()) {
                Place to = Collections.min(places, nearest);
                now = withPoster(k, now.posters.get(k).to(to.x, to.y));
            }
        }
    }

    public int packs() {
        change(packed());
        return lying();
    }

    public int tidies() {
        int stayed = stays();
        List<Poster> were = now.posters;
        List<Integer> moved = new ArrayList<>();
        List<Poster> posters = new ArrayList<>(were);
        for (int k : numbers()) {
            if (were.get(k).lies() && (stayed & 1 << k) == 0) {
                moved.add(k);
                posters.set(k, were.get(k).to(NONE, NONE));
            }
        }
        change(withPosters(posters));
        layEach(byRank(moved), were);
        return Integer.bitCount(stayed);
    }

    public int stays() {
        List<Integer> sets = new ArrayList<>();
        State was = now;
        for (int set = 0; set < 256; set++) {
            List<Poster> posters = new ArrayList<>();
            for (int k : numbers()) {
                if ((set & 1 << k) != 0) {
                    posters.add(was.posters.get(k));
                }
            }
            now = withPosters(posters);
            boolean good = posters.size() == Integer.bitCount(set);
            for (int k = 0; k < posters.size() && good; k++) {
                good = fitting(k);
            }
            if (good) {
                sets.add(set);
            }
            now = was;
        }
        Comparator<Integer> heaviest = Comparator.comparingInt(this::weightOfSet);
        return Collections.max(sets, heaviest.thenComparingInt(Integer::bitCount).thenComparingInt(set -> -set));
    }

    private int weightOfSet(int set) {
        return numbers().stream().filter(k -> (set & 1 << k) != 0).mapToInt(k -> weight(now.posters.get(k))).sum();
    }

    private boolean covers(Poster p, int x, int y) {
        return p.lies() && x >= p.x && y >= p.y && x < p.x + wide(p) && y < p.y + high(p);
    }

    public int at(int x, int y) {
        if (!in(x, 0, now.w - 1) || !in(y, 0, now.h - 1)) {
            return refuse(BAD);
        }
        return numbers().stream().filter(k -> covers(now.posters.get(k), x, y)).findFirst().orElse(NONE);
    }

    // white and weight

    private boolean[][] whites() {
        boolean[][] white = new boolean[now.h][now.w];
        for (int y = 0; y < now.h; y++) {
            for (int x = 0; x < now.w; x++) {
                white[y][x] = true;
                for (Poster p : now.posters) {
                    white[y][x] &= !covers(p, x, y);
                }
            }
        }
        return white;
    }

    /** Cells, place and width of the greatest block, out of every rectangle. */
    private int[] block(boolean[][] white) {
        int[][] sums = new int[now.h + 1][now.w + 1];
        for (int y = 0; y < now.h; y++) {
            for (int x = 0; x < now.w; x++) {
                sums[y + 1][x + 1] = sums[y][x + 1] + sums[y + 1][x] - sums[y][x] + (white[y][x] ? 1 : 0);
            }
        }
        int[] best = {0, NONE, NONE};
        for (int y = 0; y < now.h; y++) {
            for (int x = 0; x < now.w; x++) {
                for (int below = y + 1; below <= now.h; below++) {
                    for (int right = x + 1; right <= now.w; right++) {
                        int cells = (below - y) * (right - x);
                        int whites = sums[below][right] - sums[y][right] - sums[below][x] + sums[y][x];
                        int place = 16 * y + x;
                        boolean better = cells > best[0]
                            || cells == best[0] && place == best[1] && right - x > best[2];
                        if (whites == cells && better) {
                            best = new int[] {cells, place, right - x};
                        }
                    }
                }
            }
        }
        return best;
    }

    /** Every cell takes the least number of those beside it, until nothing changes; then numbers are counted. */
    private int parts(boolean[][] white) {
        int[][] heap = new int[now.h][now.w];
        for (int y = 0; y < now.h; y++) {
            for (int x = 0; x < now.w; x++) {
                heap[y][x] = white[y][x] ? 16 * y + x : Integer.MAX_VALUE;
            }
        }
        int[][] sides = {{1, 0}, {-1, 0}, {0, 1}, {0, -1}};
        for (boolean changed = true; changed;) {
            changed = false;
            for (int y = 0; y < now.h; y++) {
                for (int x = 0; x < now.w; x++) {
                    for (int[] s : sides) {
                        boolean is = in(x + s[0], 0, now.w - 1) && in(y + s[1], 0, now.h - 1);
                        if (white[y][x] && is && heap[y + s[1]][x + s[0]] < heap[y][x]) {
                            heap[y][x] = heap[y + s[1]][x + s[0]];
                            changed = true;
                        }
                    }
                }
            }
        }
        return (int) Arrays.stream(heap).flatMapToInt(Arrays::stream).filter(n -> n < 256).distinct().count();
    }

    public int white(int what) {
        if (!in(what, 0, 5)) {
            return refuse(BAD);
        }
        boolean[][] white = whites();
        int cells = 0;
        for (boolean[] row : white) {
            for (boolean cell : row) {
                cells += cell ? 1 : 0;
            }
        }
        int[] block = block(white);
        float share = (float) cells / (float) (now.w * now.h);
        return new int[] {cells, block[0], block[1], block[2], parts(white), Float.floatToIntBits(share)}[what];
    }

    private double[] centres(State state) {
        double weights = 0;
        double x = 0;
        double y = 0;
        for (Poster p : state.posters) {
            if (p.lies()) {
                x += (double) weight(p) * (p.x + wide(p) / 2.0);
                y += (double) weight(p) * (p.y + high(p) / 2.0);
                weights += weight(p);
            }
        }
        x = weights == 0 ? state.w / 2.0 : x / weights;
        y = weights == 0 ? state.h / 2.0 : y / weights;
        double across = x - state.w / 2.0;
        double down = y - state.h / 2.0;
        return new double[] {x, y, across * across + down * down};
    }

    public long centre(int what) {
        return in(what, 0, 2) ? Double.doubleToLongBits(centres(now)[what]) : refuse(BAD);
    }

    public int all(int what) {
        if (!in(what, 0, 3)) {
            return refuse(BAD);
        }
        int[] all = new int[4];
        for (int k : numbers()) {
            Poster p = now.posters.get(k);
            all[0] += p.lies() ? 1 << k : 0;
            all[1] += p.lies() && !fitting(k) ? 1 << k : 0;
            all[2] += p.lies() ? weight(p) : 0;
            for (Poster q : now.posters.subList(0, k)) {
                Poster lesser = p.rank < q.rank ? p : q;
                Poster other = lesser == p ? q : p;
                boolean larger = wide(lesser) * high(lesser) > wide(other) * high(other);
                all[3] += p.rank != q.rank && !larger ? 1 : 0;
            }
        }
        return all[what];
    }

    public int sorted(int sort, int i) {
        if (!in(sort, 0, 1) || i < 0) {
            return refuse(BAD);
        }
        List<Integer> sorted = new ArrayList<>(numbers());
        sorted.removeIf(k -> now.posters.get(k).sort != sort);
        sorted.sort(Comparator.comparingInt(k -> -weight(now.posters.get(k))));
        return i < sorted.size() ? sorted.get(i) : NONE;
    }

    // series

    public int keeps(int s) {
        if (!in(s, 0, 2)) {
            return refuse(BAD);
        }
        List<List<Then>> kept = new ArrayList<>(now.kept);
        List<Then> then = new ArrayList<>();
        now.posters.forEach(p -> then.add(p.lies() ? new Then(p.x, p.y, wide(p), high(p)) : null));
        kept.set(s, then);
        change(new State(now.w, now.h, now.settings, now.posters, kept));
        return lying();
    }

    private Then then(int s, int k) {
        return k < now.kept.get(s).size() ? now.kept.get(s).get(k) : null;
    }

    public int takes(int s) {
        if (!in(s, 0, 2)) {
            return refuse(BAD);
        }
        if (now.kept.get(s) == null) {
            return refuse(NO);
        }
        List<Poster> posters = new ArrayList<>();
        for (int k : numbers()) {
            Then t = then(s, k);
            posters.add(now.posters.get(k).to(t == null ? NONE : t.x, t == null ? NONE : t.y));
        }
        change(withPosters(posters));
        return lying();
    }

    public int otherwise(int s, int what) {
        if (!in(s, 0, 2) || !in(what, 0, 1)) {
            return refuse(BAD);
        }
        if (now.kept.get(s) == null) {
            return refuse(NO);
        }
        int unlike = 0;
        int far = 0;
        for (int k = 0; k < 8; k++) {
            Poster p = has(k) && now.posters.get(k).lies() ? now.posters.get(k) : null;
            Then t = then(s, k);
            if (p != null && t != null) {
                unlike += new Then(p.x, p.y, wide(p), high(p)).equals(t) ? 0 : 1;
                far += Math.abs(p.x - t.x) + Math.abs(p.y - t.y);
            } else if (p != null || t != null) {
                unlike++;
            }
        }
        return what == 0 ? unlike : far;
    }

    // texts

    public int type(int c) {
        if (!in(c, 0, 127)) {
            return refuse(BAD);
        }
        if (text.length() == 120) {
            return refuse(FULL);
        }
        text += (char) c;
        return text.length();
    }

    public int clear() {
        int had = text.length();
        text = "";
        return had;
    }

    private static boolean mayGoOn(String begun) {
        Matcher matcher = TEXT.matcher(begun);
        return matcher.matches() || matcher.hitEnd();
    }

    private int fault() {
        for (int i = 0; i < text.length(); i++) {
            if (!mayGoOn(text.substring(0, i + 1))) {
                return i;
            }
        }
        return TEXT.matcher(text).matches() ? NONE : text.length();
    }

    private int order(String order) {
        Matcher matcher = Pattern.compile(N).matcher(order);
        List<Integer> n = new ArrayList<>();
        while (matcher.find()) {
            n.add(Integer.parseInt(matcher.group()));
        }
        switch (order.charAt(0)) {
            case 'i': return item(n.get(0), n.get(1), n.get(2), n.get(3));
            case 'w': return sheet(n.get(0), n.get(1));
            case 'p': return lays(n.get(0), n.get(1), n.get(2));
            case 'o': return off(n.get(0));
            case 'a': return packs();
            default: return sets("mgbrc".indexOf(order.charAt(0)), n.get(0));
        }
    }

    public int reads() {
        int fault = fault();
        if (fault != NONE) {
            return -10 - fault;
        }
        State was = now;
        List<State> statesWere = new ArrayList<>(states);
        int[] refusedWere = refused.clone();
        int done = 0;
        int answer = 0;
        for (String order : text.trim().split(";")) {
            answer = order(order.trim());
            if (answer < 0) {
                break;
            }
            done++;
        }
        State then = answer < 0 ? was : now;
        states.clear();
        states.addAll(statesWere);
        System.arraycopy(refusedWere, 0, refused, 0, 3);
        now = was;
        if (answer < 0) {
            return -1000 - done;
        }
        change(then);
        return done;
    }

    public int back() {
        if (states.isEmpty()) {
            return refuse(NO);
        }
        now = states.removeLast();
        return states.size();
    }

    public int told(int what) {
        if (!in(what, 0, 13)) {
            return refuse(BAD);
        }
        List<Integer> told = new ArrayList<>(List.of(refused[0], refused[1], refused[2], text.length(),
            now.posters.size(), now.w, now.h));
        told.addAll(now.settings);
        int bits = 0;
        for (int s = 0; s < 3; s++) {
            bits |= now.kept.get(s) == null ? 0 : 1 << s;
        }
        told.add(bits);
        told.add(states.size());
        return told.get(what);
    }

    public long digest() {
        List<Long> values = new ArrayList<>();
        for (int what = 0; what <= 13; what++) {
            values.add((long) told(what));
        }
        for (int k : numbers()) {
            for (int what = 0; what <= 9; what++) {
                values.add((long) of(k, what));
            }
        }
        for (int rank = 1; rank <= 6; rank++) {
            values.add((long) side(rank));
        }
        for (int what : new int[] {0, 1, 4}) {
            values.add((long) white(what));
        }
        for (int what = 0; what <= 2; what++) {
            values.add(centre(what));
        }
        values.add((long) stays());
        return values.stream().reduce(2281L, (h, v) -> 31 * h + v);
    }
}
