import java.util.ArrayList;
import java.util.List;

/**
 * All that can be seen of an object through its face, but how often it refused: now, in each STATE to go
 * back to, on each KEPT SHEET, and what THE TEXT tells. The object is used up by looking.
 */
final class Seen {
    private final PosterSheet sheet;
    private final List<Long> seen = new ArrayList<>();

    private Seen(PosterSheet sheet) {
        this.sheet = sheet;
    }

    static List<Long> of(PosterSheet sheet) {
        Seen all = new Seen(sheet);
        all.look();
        for (int left = sheet.told(13); left > 0; left--) {
            all.seen.add((long) sheet.back());
            all.look();
        }
        all.lookAtKeptSheets();
        all.seen.add((long) sheet.reads());
        all.look();
        return all.seen;
    }

    /** The digest without how often was refused. */
    static long plainDigest(PosterSheet sheet) {
        long power = 1;
        int values = 27 + 10 * sheet.told(4);
        for (int i = 0; i < values - 3; i++) {
            power *= 31;
        }
        long refusals = sheet.told(2) + 31L * sheet.told(1) + 31L * 31L * sheet.told(0);
        return sheet.digest() - refusals * power;
    }

    private boolean isKept(int s) {
        return (sheet.told(12) >> s & 1) == 1;
    }

    private void look() {
        seen.add(plainDigest(sheet));
        for (int s = 0; s <= 2; s++) {
            if (isKept(s)) {
                seen.add((long) sheet.otherwise(s, 0));
                seen.add((long) sheet.otherwise(s, 1));
            }
        }
    }

    /** No STATE is left when this begins, so that none is lost by it. */
    private void lookAtKeptSheets() {
        for (int s = 0; s <= 2; s++) {
            if (isKept(s)) {
                seen.add((long) sheet.takes(s));
                look();
                sheet.back();
            }
        }
    }
}
