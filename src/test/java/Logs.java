/** Logs in the states that the tests begin with. */
final class Logs {
    static final int PAGES_OF_BLOCK = 16;

    private Logs() { }

    /** A log with that many programmed pages, one event of one byte (its number + 100) in each. */
    static PairedCells filled(int pages) {
        PairedCells x = new PairedCells();
        fill(x, pages);
        return x;
    }

    static void fill(PairedCells x, int pages) {
        int number = x.count();
        for (int k = 0; k < pages; k++) {
            x.append(1, number + 100);
            number = x.sync();
        }
    }

    /** Six events of one byte: no other one fits in the open page then. */
    static void fillOpenPage(PairedCells x) {
        for (int k = 0; k < 6; k++) {
            x.append(1, k);
        }
    }

    static void restart(PairedCells x) {
        x.off();
        x.start();
    }

    static void ruinBlock(PairedCells x, int block) {
        ruinLower(x, block, 0, 7);
        ruinUpper(x, block, 0, 7);
    }

    static void ruinLower(PairedCells x, int block, int from, int to) {
        for (int line = from; line <= to; line++) {
            x.ruin(block, line, false);
        }
    }

    static void ruinUpper(PairedCells x, int block, int from, int to) {
        for (int line = from; line <= to; line++) {
            x.ruin(block, line, true);
        }
    }

    /** The page at a place in the order of its block: the lower ones, then the upper ones. */
    static int page(PairedCells x, int block, int place) {
        return x.page(block, place % 8, place >= 8);
    }

    /** How many pages of the block are neither written nor ruined. */
    static int erasedPages(PairedCells x, int block) {
        int erased = 0;
        for (int place = 0; place < PAGES_OF_BLOCK; place++) {
            if (page(x, block, place) == 0) {
                erased++;
            }
        }
        return erased;
    }
}
