import java.util.ArrayList;
import java.util.List;

/**
 * The document's first sentence: "what was written safely stays", wherever the power is cut. No page is
 * ruined here but by a cut, and nothing is compared but what was put in with what is read.
 */
public final class WrittenStaysTest {
    private static final Checks CHECKS = new Checks();
    private static final int LATEST_CUT = 60;
    private static final int CALLS = 512;

    private final PairedCells x = new PairedCells();
    private final List<Long> written = new ArrayList<>();
    private final String name;
    private int calls = 0;
    private int forgotten = 0;

    private WrittenStaysTest(String name) {
        this.name = name;
    }

    public static void main(String[] args) {
        oneCutAnywhere();
        twoCutsAnywhere();
        aCutAtEveryFewProgrammings();
        aCutInBlocksUsedAgain();
        CHECKS.finish();
    }

    private static void oneCutAnywhere() {
        for (int n = 1; n <= LATEST_CUT; n++) {
            WrittenStaysTest log = new WrittenStaysTest("cut " + n);
            log.writeUpToTheCut(n);
            log.everyEventIsThere();
            log.writePages(20);
            log.everyEventIsThere();
        }
    }

    private static void twoCutsAnywhere() {
        for (int n = 1; n <= LATEST_CUT; n++) {
            for (int m = 1; m + n <= LATEST_CUT; m++) {
                WrittenStaysTest log = new WrittenStaysTest("cuts " + n + " and " + m);
                log.writeUpToTheCut(n);
                log.writeUpToTheCut(m);
                log.everyEventIsThere();
            }
        }
    }

    private static void aCutAtEveryFewProgrammings() {
        for (int n = 2; n <= 20; n++) {
            WrittenStaysTest log = new WrittenStaysTest("a cut at each programming " + n);
            for (int k = 0; k < 40 / n; k++) {
                log.writeUpToTheCut(n);
            }
            log.everyEventIsThere();
        }
    }

    private static void aCutInBlocksUsedAgain() {
        for (int n = 1; n <= 2 * 17; n++) {
            WrittenStaysTest log = new WrittenStaysTest("blocks used again, cut " + n);
            log.writePages(6 * 16);
            log.forgetBlocks(4);
            log.writeUpToTheCut(n);
            log.everyEventIsThere();
        }
    }

    /** Writes pages until the power is cut at the n-th programming, and turns it on again. */
    private void writeUpToTheCut(int n) {
        calls += 3;
        x.cutAfter(n);
        for (int left = n; left > 0 && writePage(); left--) {
            // the n-th programming comes with the n-th page or, with guard pages among them, before it
        }
        CHECKS.same(name + ": power", 0, x.told(1));
        CHECKS.same(name + ": count behind the cut", written.size(), x.start());
    }

    private void writePages(int pages) {
        for (int k = 0; k < pages; k++) {
            CHECKS.same(name + ": not cut", true, writePage());
        }
    }

    /** A page with one event, which is safe when sync says so: false when it was cut. */
    private boolean writePage() {
        calls += 2;
        int number = written.size();
        int n = lengthOf(number);
        long w = (number + 1) * 0x9E3779B97F4A7C15L + calls & (1L << 8 * n) - 1;
        CHECKS.same(name + ": number", number, x.append(n, w));
        if (x.sync() == PairedCells.CUT) {
            return false;
        }
        written.add(w);
        return true;
    }

    private static int lengthOf(int number) {
        return 1 + number % 6;
    }

    private void forgetBlocks(int blocks) {
        calls++;
        forgotten = 16 * blocks;
        CHECKS.same(name + ": trim", blocks, x.trim(forgotten));
    }

    private void everyEventIsThere() {
        calls += 2;
        CHECKS.same(name + ": first", forgotten, x.first());
        CHECKS.same(name + ": count", written.size(), x.count());
        for (int i = forgotten; i < written.size(); i++) {
            eventIsThere(i);
        }
        CHECKS.same(name + ": no more calls than an object is good for", true, calls <= CALLS);
    }

    private void eventIsThere(int i) {
        calls += 2;
        int length = x.length(i);
        CHECKS.same(name + ": length of " + i, lengthOf(i), length);
        if (length != PairedCells.NONE) {
            CHECKS.same(name + ": event " + i, written.get(i), x.event(i));
        }
    }
}
