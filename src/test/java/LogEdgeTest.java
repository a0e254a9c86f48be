/**
 * The boundary cases that the document names for the log: its numbers, the open page, flushing,
 * starting and trimming. What is refused stands in RefusalTest.
 */
public final class LogEdgeTest {
    private static final Checks CHECKS = new Checks();

    public static void main(String[] args) {
        aNewLogIsEmpty();
        numbersBeginAtZero();
        anEventIsTheLowestBytes();
        theOpenPageTakesAsManyEventsAsFit();
        anEventThatDoesNotFitIsTheLastOneOfTheNextPage();
        aPageHasItsEventsAndZerosBehind();
        aPageHasTheNumberOfItsFirstEvent();
        syncFlushesAnOpenPageWithEventsOnly();
        anAppendThatIsCutIsNotAppended();
        aBlockTakesSixteenPages();
        aBlockWithRuinedLowerPagesTakesMore();
        aBlockWithARuinedUpperPageTakesNoMore();
        behindBlock5Comes0();
        theLogIsFullBeforeABlockWithAnyPage();
        theLogIsFullWithAnErasedBlockFurtherOn();
        aCurrentBlockBehindARefusalStays();
        offCountsTheOpenPage();
        startForgetsTheOpenPage();
        startWithoutEvents();
        startErasesBlocksWithoutAReadablePage();
        startKeepsABlockWithOneReadablePage();
        startFindsTheLeastAndTheGreatestEvent();
        startFindsTheCurrentBlock();
        trimStopsAtTheBlockWithEventN();
        trimLeavesTheCurrentBlock();
        trimAnswersHowManyBlocks();
        trimErasesBlocksWithoutAReadablePage();
        trimmedEventsAreGoneUntilTheStart();
        firstIsCountWhenThereIsNone();
        anEventIsLostInNoReadablePage();
        toldTheCurrentBlockWithThePowerOff();
        toldOfEachNumber();
        CHECKS.finish();
    }

    /** "A chip that is erased, the power on, block 0 the current one, no events, no cut set." */
    private static void aNewLogIsEmpty() {
        PairedCells x = new PairedCells();
        CHECKS.same("new: current", 0, x.told(0));
        CHECKS.same("new: power", 1, x.told(1));
        CHECKS.same("new: cut", 0, x.told(3));
        CHECKS.same("new: first", 0, x.first());
        CHECKS.same("new: count", 0, x.count());
        CHECKS.same("new: trim", 0, x.trim(0));
        CHECKS.same("new: sync", 0, x.sync());
        CHECKS.same("new: off", 0, x.off());
    }

    /** "with numbers from 0 on". */
    private static void numbersBeginAtZero() {
        PairedCells x = new PairedCells();
        for (int k = 0; k < 20; k++) {
            CHECKS.same("number", k, x.append(1 + k % 6, k));
            CHECKS.same("number: of the next one", k + 1, x.count());
        }
    }

    /** "an event of the n lowest bytes of w, the lowest first"; "The bytes of an event, the first one the lowest". */
    private static void anEventIsTheLowestBytes() {
        long[] words = {0, 1, 0x80, 0xFF, 0x100, 0x8000000000L, 0x8182838485868788L, -1, Long.MIN_VALUE,
            Long.MAX_VALUE};
        for (int n = 1; n <= 6; n++) {
            for (long w : words) {
                PairedCells x = new PairedCells();
                x.append(n, w);
                long due = w & (1L << 8 * n) - 1;
                CHECKS.same("event: open", due, x.event(0));
                CHECKS.same("length: open", n, x.length(0));
                x.sync();
                CHECKS.same("event: programmed", due, x.event(0));
                CHECKS.same("length: programmed", n, x.length(0));
                for (int k = 0; k < n; k++) {
                    CHECKS.same("event: byte " + k, w >> 8 * k & 0xFF, x.at(0, 0, false, 4 + k));
                }
            }
        }
    }

    /** "as many as fit in a page": one of 16 bytes, 3 of them before the events, one before each. */
    private static void theOpenPageTakesAsManyEventsAsFit() {
        for (int a = 0; a <= 6; a++) {
            for (int b = 1; b <= 6; b++) {
                for (int n = 1; n <= 6; n++) {
                    PairedCells x = new PairedCells();
                    int used = 3 + appendIfAny(x, a) + appendIfAny(x, b);
                    int before = x.page(0, 0, false);
                    x.append(n, 0);
                    boolean fits = used > 16 || used + 1 + n <= 16;
                    CHECKS.same("open page: " + a + " and " + b, used > 16 ? 1 : 0, before);
                    CHECKS.same("open page: " + a + ", " + b + " and " + n, fits ? before : 1, x.page(0, 0, false));
                }
            }
        }
        PairedCells y = new PairedCells();
        Logs.fillOpenPage(y);
        CHECKS.same("open page: six of one byte", 0, y.page(0, 0, false));
        y.append(1, 1);
        CHECKS.same("open page: not seven", 1, y.page(0, 0, false));
        PairedCells z = new PairedCells();
        for (int n : new int[] {1, 1, 1, 1, 1, 2}) {
            z.append(n, 0);
        }
        CHECKS.same("open page: all of its bytes", 0, z.page(0, 0, false));
        CHECKS.same("open page: its events", 6, z.off());
    }

    private static int appendIfAny(PairedCells x, int n) {
        if (n == 0) {
            return 0;
        }
        x.append(n, 0);
        return 1 + n;
    }

    /** "if it does not fit in the open page, that is flushed; then it is the last one in the open page". */
    private static void anEventThatDoesNotFitIsTheLastOneOfTheNextPage() {
        PairedCells x = new PairedCells();
        Logs.fillOpenPage(x);
        CHECKS.same("append: its number", 6, x.append(1, 66));
        CHECKS.same("append: the page before has six", 6, x.at(0, 0, false, 0));
        CHECKS.same("append: it can be read", 66, x.event(6));
        CHECKS.same("append: and is alone in the open page", 1, x.off());
    }

    /** "byte 0: how many events; ... then for each its length, and its bytes; 0 behind". */
    private static void aPageHasItsEventsAndZerosBehind() {
        PairedCells x = new PairedCells();
        x.append(6, -1);
        x.append(5, -1);
        x.append(1, 0x7F);
        x.append(2, 0xABCD);
        x.sync();
        int[] full = {2, 0, 0, 6, 255, 255, 255, 255, 255, 255, 5, 255, 255, 255, 255, 255};
        int[] less = {2, 0, 2, 1, 0x7F, 2, 0xCD, 0xAB, 0, 0, 0, 0, 0, 0, 0, 0};
        for (int k = 0; k < 16; k++) {
            CHECKS.same("page: full, byte " + k, full[k], x.at(0, 0, false, k));
            CHECKS.same("page: behind a full one, byte " + k, less[k], x.at(0, 1, false, k));
        }
    }

    /** "bytes 1 and 2: the number of the first one (its lowest 16 bits), the high byte first". */
    private static void aPageHasTheNumberOfItsFirstEvent() {
        PairedCells x = new PairedCells();
        for (int k = 0; k < 254; k++) {
            x.append(1, k);
        }
        x.sync();
        for (int number = 254; number <= 257; number++) {
            x.append(1, number);
            x.sync();
            int place = 43 + number - 254;
            int line = place % 8;
            boolean upper = place % 16 >= 8;
            CHECKS.same("page of " + number + ": high byte", number / 256, x.at(2, line, upper, 1));
            CHECKS.same("page of " + number + ": low byte", number % 256, x.at(2, line, upper, 2));
        }
        Logs.restart(x);
        CHECKS.same("numbers over 255: count", 258, x.count());
        CHECKS.same("numbers over 255: first", 0, x.first());
        CHECKS.same("numbers over 255: event", 257 & 255, x.event(257));
        CHECKS.same("numbers over 255: 1 is not 257", 1, x.event(1));
    }

    /** "Flushes the open page, if it has events: how many events there are and were". */
    private static void syncFlushesAnOpenPageWithEventsOnly() {
        PairedCells x = new PairedCells();
        CHECKS.same("sync: of none", 0, x.sync());
        CHECKS.same("sync: no page", 0, x.page(0, 0, false));
        x.append(1, 1);
        CHECKS.same("sync: of one", 1, x.sync());
        CHECKS.same("sync: a page", 1, x.page(0, 0, false));
        CHECKS.same("sync: of none again", 1, x.sync());
        CHECKS.same("sync: no page more", 0, x.page(0, 1, false));
        CHECKS.same("sync: the open page is empty", 0, x.off());
        CHECKS.same("sync: it stays", 1, x.start());
        x.trim(1);
        CHECKS.same("sync: those that were count", 1, x.sync());
        PairedCells y = Logs.filled(96);
        CHECKS.same("sync: of none in a full log", 96, y.sync());
    }

    /** "CUT when the power went off (then it is not appended)". */
    private static void anAppendThatIsCutIsNotAppended() {
        PairedCells x = Logs.filled(1);
        Logs.fillOpenPage(x);
        x.cutAfter(1);
        CHECKS.same("append: cut", -2, x.append(1, 1));
        CHECKS.same("append: cut, then the power is off", 0, x.told(1));
        CHECKS.same("append: cut, so neither it nor the open page is there", 1, x.start());
        CHECKS.same("append: cut, and the next one gets its number", 1, x.append(1, 1));
        PairedCells y = Logs.filled(1);
        Logs.fillOpenPage(y);
        y.cutAfter(2);
        CHECKS.same("append: not cut", 7, y.append(1, 1));
        CHECKS.same("append: not cut, the power is on", 1, y.told(1));
    }

    /** "it does as long as ... some page is left in its order". */
    private static void aBlockTakesSixteenPages() {
        for (int block = 0; block < 6; block++) {
            PairedCells x = Logs.filled(16 * block + 15);
            CHECKS.same("block " + block + ": fifteen pages", 1, Logs.erasedPages(x, block));
            Logs.fill(x, 1);
            CHECKS.same("block " + block + ": the sixteenth", 1, x.page(block, 7, true));
            CHECKS.same("block " + block + ": is still the current one", block, x.told(0));
            if (block < 5) {
                Logs.fill(x, 1);
                CHECKS.same("block " + block + ": the next one is, then", block + 1, x.told(0));
                CHECKS.same("block " + block + ": its first page", 1, x.page(block + 1, 0, false));
            }
        }
    }

    /** "it does as long as none of its upper pages is ruined": lower ones do not matter. */
    private static void aBlockWithRuinedLowerPagesTakesMore() {
        PairedCells x = Logs.filled(3);
        Logs.ruinLower(x, 0, 0, 2);
        Logs.fill(x, 1);
        CHECKS.same("ruined lower pages: the next of the block", 1, x.page(0, 3, false));
        Logs.fill(x, 4);
        Logs.ruinLower(x, 0, 3, 7);
        Logs.fill(x, 8);
        CHECKS.same("ruined lower pages: up to the last one", 1, x.page(0, 7, true));
        CHECKS.same("ruined lower pages: the block", 0, x.told(0));
        PairedCells y = Logs.filled(7);
        y.append(1, 1);
        y.cutAfter(1);
        y.sync();
        y.start();
        Logs.fill(y, 1);
        CHECKS.same("cut at the last lower page: the first upper one", 1, y.page(0, 0, true));
        CHECKS.same("cut at the last lower page: is not covered", 127, y.guarded(0, 16));
    }

    private static void aBlockWithARuinedUpperPageTakesNoMore() {
        for (int line = 0; line < 8; line++) {
            for (int written = line; written < 8; written++) {
                PairedCells x = Logs.filled(9 + written);
                x.ruin(0, line, true);
                Logs.fill(x, 1);
                CHECKS.same("ruined upper page " + line + " of " + written, 1, x.told(0));
                CHECKS.same("ruined upper page " + line + ": the next block", 1, x.page(1, 0, false));
                CHECKS.same("ruined upper page " + line + ": not this one", 7 - written, Logs.erasedPages(x, 0));
            }
        }
    }

    /** "the one with the next number (behind 5 comes 0) is the current one from then on". */
    private static void behindBlock5Comes0() {
        PairedCells x = Logs.filled(95);
        x.trim(16);
        Logs.fill(x, 1);
        CHECKS.same("behind 5: not before its last page", 5, x.told(0));
        CHECKS.same("behind 5: 0 is erased", 16, Logs.erasedPages(x, 0));
        Logs.fill(x, 1);
        CHECKS.same("behind 5: 0", 0, x.told(0));
        CHECKS.same("behind 5: its first page", 1, x.page(0, 0, false));
        Logs.restart(x);
        CHECKS.same("behind 5: so it is found", 0, x.told(0));
        CHECKS.same("behind 5: the log goes on", 97, x.count());
        Logs.fill(x, 15);
        CHECKS.same("behind 5: up to the last page of 0", 1, x.page(0, 7, true));
        x.append(1, 1);
        CHECKS.fails("behind 0: 1 is not erased", UnsupportedOperationException.class, x::sync);
        x.trim(32);
        CHECKS.same("behind 0: 1", 113, x.sync());
        CHECKS.same("behind 0: it is the current one", 1, x.told(0));
    }

    /** "which must be erased, or else the log is FULL". */
    private static void theLogIsFullBeforeABlockWithAnyPage() {
        PairedCells x = Logs.filled(80);
        x.trim(16);
        Logs.fill(x, 16);
        Logs.fill(x, 16);
        Logs.ruinBlock(x, 1);
        x.append(1, 1);
        CHECKS.fails("full: ruined pages are not erased", UnsupportedOperationException.class, x::sync);
        CHECKS.same("full: trim erases them", 1, x.trim(x.first()));
        CHECKS.same("full: no more", 113, x.sync());
        CHECKS.same("full: the block is taken", 1, x.page(1, 0, false));
        PairedCells y = logWithShortBlock1();
        y.append(1, 1);
        CHECKS.fails("full: before a block of nine pages", UnsupportedOperationException.class, y::sync);
        CHECKS.same("full: still the block before", 0, y.told(0));
    }

    /** "the one with the next number": no other one, were it erased. */
    private static void theLogIsFullWithAnErasedBlockFurtherOn() {
        PairedCells x = Logs.filled(96);
        x.trim(16);
        Logs.fill(x, 16);
        Logs.ruinBlock(x, 2);
        x.trim(16);
        CHECKS.same("full: block 2 is erased", 16, Logs.erasedPages(x, 2));
        x.append(1, 1);
        CHECKS.fails("full: but block 1 is not", UnsupportedOperationException.class, x::sync);
        x.trim(32);
        CHECKS.same("full: until it is", 113, x.sync());
        CHECKS.same("full: then it is the current one", 1, x.told(0));
    }

    /** Block 0 is current and has no page left, block 1 has nine pages, the last one ruined. */
    private static PairedCells logWithShortBlock1() {
        PairedCells x = Logs.filled(25);
        x.ruin(1, 0, true);
        Logs.fill(x, 64);
        x.trim(16);
        Logs.fill(x, 16);
        CHECKS.same("short block: current", 0, x.told(0));
        CHECKS.same("short block: erased pages", 7, Logs.erasedPages(x, 1));
        return x;
    }

    /** "A call that throws changes nothing". */
    private static void aCurrentBlockBehindARefusalStays() {
        PairedCells x = Logs.filled(96);
        Logs.fillOpenPage(x);
        CHECKS.fails("full: append", UnsupportedOperationException.class, () -> x.append(1, 1));
        CHECKS.fails("full: sync", UnsupportedOperationException.class, x::sync);
        CHECKS.same("full: current", 5, x.told(0));
        CHECKS.same("full: count", 102, x.count());
        CHECKS.same("full: the current block is not trimmed", 5, x.trim(102));
        CHECKS.same("full: it stays", 0, Logs.erasedPages(x, 5));
        CHECKS.same("full: no more", 102, x.append(1, 1));
        CHECKS.same("full: now it is 0", 0, x.told(0));
        CHECKS.same("full: its page has the six", 6, x.at(0, 0, false, 0));
    }

    /** "The power goes off: how many events were in the open page." */
    private static void offCountsTheOpenPage() {
        for (int events = 0; events <= 6; events++) {
            PairedCells x = Logs.filled(2);
            for (int k = 0; k < events; k++) {
                x.append(1, k);
            }
            CHECKS.same("off: events", events, x.off());
            CHECKS.same("off: power", 0, x.told(1));
        }
        PairedCells y = new PairedCells();
        Logs.fillOpenPage(y);
        y.append(1, 1);
        CHECKS.same("off: one behind a full page", 1, y.off());
        PairedCells z = Logs.filled(2);
        Logs.fillOpenPage(z);
        z.trim(5);
        CHECKS.same("off: trimmed or not", 6, z.off());
    }

    /** "nothing is in the open page". */
    private static void startForgetsTheOpenPage() {
        PairedCells x = Logs.filled(2);
        x.append(1, 77);
        x.off();
        CHECKS.same("start: without the open page", 2, x.start());
        CHECKS.fails("start: its event", IndexOutOfBoundsException.class, () -> x.event(2));
        CHECKS.same("start: the open page is empty", 2, x.sync());
        CHECKS.same("start: no page is programmed", 0, x.page(0, 2, false));
        PairedCells y = Logs.filled(2);
        Logs.fillOpenPage(y);
        y.cutAfter(1);
        y.sync();
        y.start();
        CHECKS.same("start behind a cut: the open page is empty", 0, y.off());
    }

    /** "(both 0 if there are none)", "(0 if there are none)". */
    private static void startWithoutEvents() {
        PairedCells x = new PairedCells();
        x.append(1, 1);
        x.off();
        CHECKS.same("start: nothing programmed", 0, x.start());
        CHECKS.same("start: first", 0, x.first());
        CHECKS.same("start: no block was erased", 0, x.told(10));
        PairedCells y = Logs.filled(33);
        for (int block = 0; block < 3; block++) {
            Logs.ruinBlock(y, block);
        }
        y.off();
        CHECKS.same("start: nothing readable", 0, y.start());
        CHECKS.same("start: nothing readable, first", 0, y.first());
        CHECKS.same("start: nothing readable, current", 0, y.told(0));
        CHECKS.same("start: nothing readable, erased blocks", 6, y.told(2));
        CHECKS.same("start: numbers begin anew", 0, y.append(1, 1));
        y.sync();
        CHECKS.same("start: and so do the pages", 1, y.page(0, 0, false));
    }

    /** "each block of which some page is not erased, but none is readable, is erased". */
    private static void startErasesBlocksWithoutAReadablePage() {
        PairedCells x = Logs.filled(50);
        Logs.ruinBlock(x, 1);
        x.ruin(3, 0, false);
        x.ruin(3, 1, false);
        x.off();
        CHECKS.same("start: not before it", 2, x.told(2));
        CHECKS.same("start: count", 48, x.start());
        CHECKS.same("start: a full block of ruined pages", 1, x.told(11));
        CHECKS.same("start: two ruined pages", 1, x.told(13));
        for (int block : new int[] {0, 2, 4, 5}) {
            CHECKS.same("start: not block " + block, 0, x.told(10 + block));
        }
        CHECKS.same("start: its pages", 16, Logs.erasedPages(x, 1));
        CHECKS.same("start: its guard page", 0, x.guard(1));
        CHECKS.same("start: an event of it is lost", PairedCells.NONE, x.length(16));
        Logs.restart(x);
        CHECKS.same("start: an erased block is not erased again", 1, x.told(11));
        Logs.fill(x, 1);
        CHECKS.same("start: the next block is taken", 1, x.page(3, 0, false));
        PairedCells y = new PairedCells();
        y.append(1, 1);
        y.cutAfter(1);
        y.sync();
        y.start();
        CHECKS.same("start: one page that was cut", 1, y.told(10));
        CHECKS.same("start: its block is erased", 0, y.page(0, 0, false));
    }

    private static void startKeepsABlockWithOneReadablePage() {
        for (int place = 0; place < 16; place++) {
            PairedCells x = Logs.filled(16);
            for (int other = 0; other < 16; other++) {
                if (other != place) {
                    x.ruin(0, other % 8, other >= 8);
                }
            }
            x.off();
            CHECKS.same("one readable page, count", place + 1, x.start());
            CHECKS.same("one readable page, first", place, x.first());
            CHECKS.same("one readable page, no erasure", 0, x.told(10));
            CHECKS.same("one readable page, event", 100 + place, x.event(place));
        }
        PairedCells y = logWithARebuiltPageOnly();
        y.off();
        CHECKS.same("one rebuilt page, count", 1, y.start());
        CHECKS.same("one rebuilt page, no erasure", 0, y.told(10));
        CHECKS.same("one rebuilt page, event", 100, y.event(0));
    }

    private static PairedCells logWithARebuiltPageOnly() {
        PairedCells x = Logs.filled(8);
        Logs.ruinLower(x, 0, 1, 7);
        Logs.fill(x, 1);
        x.ruin(0, 0, true);
        x.ruin(0, 0, false);
        CHECKS.same("one rebuilt page", 3, x.page(0, 0, false));
        return x;
    }

    /** "The first event there is is the least one in readable pages, the next one ... behind the greatest one". */
    private static void startFindsTheLeastAndTheGreatestEvent() {
        PairedCells x = new PairedCells();
        for (int k = 0; k < 18; k++) {
            x.append(1, k);
        }
        x.sync();
        x.off();
        CHECKS.same("start: behind the last event of a page", 18, x.start());
        x.ruin(0, 0, false);
        x.off();
        CHECKS.same("start: a lost first page", 18, x.start());
        CHECKS.same("start: the least one", 6, x.first());
        x.ruin(0, 2, false);
        x.off();
        CHECKS.same("start: a lost last page", 12, x.start());
        CHECKS.same("start: the least one still", 6, x.first());
        CHECKS.same("start: the numbers go on", 12, x.append(1, 99));
        CHECKS.same("start: it is read", 99, x.event(12));
        PairedCells y = Logs.filled(9);
        y.ruin(0, 0, false);
        y.ruin(0, 0, true);
        Logs.restart(y);
        CHECKS.same("start: the least one is rebuilt", 0, y.first());
        CHECKS.same("start: the greatest one is not", 8, y.count());
    }

    /** "the current block is the one with the greatest one". */
    private static void startFindsTheCurrentBlock() {
        for (int block = 0; block < 6; block++) {
            PairedCells x = Logs.filled(16 * block + 1);
            Logs.restart(x);
            CHECKS.same("start: a page of block " + block, block, x.told(0));
            x.ruin(block, 0, false);
            Logs.restart(x);
            CHECKS.same("start: none of block " + block, Math.max(0, block - 1), x.told(0));
        }
        PairedCells y = Logs.filled(96);
        y.trim(32);
        Logs.fill(y, 17);
        Logs.restart(y);
        CHECKS.same("start: behind 5 and 0", 1, y.told(0));
        y.ruin(1, 0, false);
        Logs.restart(y);
        CHECKS.same("start: behind 5", 0, y.told(0));
        CHECKS.same("start: its count", 112, y.count());
        Logs.ruinBlock(y, 0);
        Logs.restart(y);
        CHECKS.same("start: back at 5", 5, y.told(0));
        CHECKS.same("start: the count of 5", 96, y.count());
    }

    /** "has no readable page with event n or a later one". */
    private static void trimStopsAtTheBlockWithEventN() {
        for (int block = 0; block < 5; block++) {
            PairedCells x = Logs.filled(96);
            int last = 16 * block + 15;
            CHECKS.same("trim: to the last event of block " + block, block, x.trim(last));
            CHECKS.same("trim: it stays", 0, Logs.erasedPages(x, block));
            CHECKS.same("trim: behind it", 1, x.trim(last + 1));
            CHECKS.same("trim: it goes", 16, Logs.erasedPages(x, block));
        }
        PairedCells y = new PairedCells();
        for (int k = 0; k < 97; k++) {
            y.append(1, k);
        }
        y.sync();
        CHECKS.same("trim: to the last event of a page of six", 0, y.trim(95));
        CHECKS.same("trim: behind the six", 1, y.trim(96));
        PairedCells z = Logs.filled(17);
        z.ruin(0, 7, true);
        z.ruin(0, 6, true);
        CHECKS.same("trim: to the last readable event", 0, z.trim(13));
        CHECKS.same("trim: to a lost one behind it", 1, z.trim(14));
    }

    /** "each block but the current one". */
    private static void trimLeavesTheCurrentBlock() {
        for (int block = 0; block < 6; block++) {
            PairedCells x = Logs.filled(16 * block + 3);
            CHECKS.same("trim: all but block " + block, block, x.trim(x.count()));
            CHECKS.same("trim: block " + block + " stays", 13, Logs.erasedPages(x, block));
            CHECKS.same("trim: and is not counted", 0, x.told(10 + block));
        }
        PairedCells y = Logs.filled(3);
        Logs.ruinLower(y, 0, 0, 2);
        CHECKS.same("trim: were it unreadable", 0, y.trim(3));
        CHECKS.same("trim: it stays", 2, y.page(0, 0, false));
    }

    /** "Answers how many blocks were." */
    private static void trimAnswersHowManyBlocks() {
        for (int blocks = 0; blocks <= 5; blocks++) {
            PairedCells x = Logs.filled(96);
            CHECKS.same("trim: so many blocks", blocks, x.trim(16 * blocks));
            CHECKS.same("trim: are erased", blocks, x.told(2));
            CHECKS.same("trim: none is erased again", 0, x.trim(16 * blocks));
            for (int block = 0; block < 6; block++) {
                CHECKS.same("trim: erasures of block " + block, block < blocks ? 1 : 0, x.told(10 + block));
            }
        }
    }

    private static void trimErasesBlocksWithoutAReadablePage() {
        PairedCells x = Logs.filled(33);
        Logs.ruinBlock(x, 1);
        CHECKS.same("trim: a block without a readable page", 1, x.trim(0));
        CHECKS.same("trim: that one", 1, x.told(11));
        CHECKS.same("trim: first stays", 0, x.first());
        CHECKS.same("trim: its events are lost", PairedCells.NONE, x.length(16));
        PairedCells y = logWithARebuiltPageOnly();
        Logs.fill(y, 1);
        CHECKS.same("trim: to the event of a rebuilt page", 0, y.trim(0));
        CHECKS.same("trim: behind it", 1, y.trim(1));
    }

    /** "Events before n are there no more (until start(): then the first event is the one told there)". */
    private static void trimmedEventsAreGoneUntilTheStart() {
        PairedCells x = Logs.filled(20);
        x.trim(7);
        CHECKS.same("trim: first", 7, x.first());
        CHECKS.fails("trim: the event before", IndexOutOfBoundsException.class, () -> x.event(6));
        CHECKS.fails("trim: its length", IndexOutOfBoundsException.class, () -> x.length(6));
        CHECKS.same("trim: event n", 107, x.event(7));
        CHECKS.same("trim: count stays", 20, x.count());
        CHECKS.fails("trim: not back", IllegalArgumentException.class, () -> x.trim(6));
        Logs.restart(x);
        CHECKS.same("trim: first, started", 0, x.first());
        CHECKS.same("trim: the event before, started", 106, x.event(6));
        x.trim(18);
        Logs.restart(x);
        CHECKS.same("trim: an erased block's do not come back", 16, x.first());
        x.append(1, 50);
        x.trim(21);
        CHECKS.same("trim: the open page stays", 21, x.sync());
        Logs.restart(x);
        CHECKS.same("trim: so its event comes back", 50, x.event(20));
    }

    /** "The number of the first event there is; that of count() when there is none." */
    private static void firstIsCountWhenThereIsNone() {
        PairedCells x = new PairedCells();
        CHECKS.same("first: of none", 0, x.first());
        x.append(1, 1);
        CHECKS.same("first: of one", 0, x.first());
        x.append(1, 1);
        CHECKS.same("first: one of them trimmed", 0, x.trim(1));
        CHECKS.same("first: the other one", 1, x.first());
        x.trim(2);
        CHECKS.same("first: both trimmed", 2, x.first());
        CHECKS.same("first: then that of count()", x.count(), x.first());
        CHECKS.fails("first: nothing to read", IndexOutOfBoundsException.class, () -> x.length(2));
        x.append(1, 1);
        CHECKS.same("first: the next one", 2, x.first());
        CHECKS.same("count: those that were, too", 3, x.count());
    }

    /** "An event is LOST if it is neither in the open page, nor in a readable one." */
    private static void anEventIsLostInNoReadablePage() {
        PairedCells x = new PairedCells();
        x.append(3, 0x123456);
        CHECKS.same("lost: not in the open page", 3, x.length(0));
        x.sync();
        CHECKS.same("lost: not in a written page", 3, x.length(0));
        x.ruin(0, 0, false);
        CHECKS.same("lost: in a ruined one", PairedCells.NONE, x.length(0));
        CHECKS.fails("lost: in a ruined one", java.util.NoSuchElementException.class, () -> x.event(0));
        CHECKS.same("lost: the count stays", 1, x.count());
        CHECKS.same("lost: and so does the first", 0, x.first());
        PairedCells y = Logs.filled(9);
        y.ruin(0, 0, false);
        CHECKS.same("lost: not in a rebuilt one", 1, y.length(0));
        CHECKS.same("lost: nor are its bytes", 100, y.event(0));
        y.ruin(0, 1, false);
        CHECKS.same("lost: with another one ruined", PairedCells.NONE, y.length(0));
        CHECKS.same("lost: and that", PairedCells.NONE, y.length(1));
        CHECKS.same("lost: no other", 102, y.event(2));
    }

    /** "the current block, as it was when the power went off, if it is". */
    private static void toldTheCurrentBlockWithThePowerOff() {
        PairedCells x = Logs.filled(17);
        x.ruin(1, 0, false);
        x.off();
        CHECKS.same("current: as it was", 1, x.told(0));
        x.start();
        CHECKS.same("current: started", 0, x.told(0));
        PairedCells y = Logs.filled(16);
        y.append(1, 1);
        y.cutAfter(1);
        CHECKS.same("current: before the cut", 0, y.told(0));
        y.sync();
        CHECKS.same("current: cut at the first page of the next one", 1, y.told(0));
        PairedCells z = Logs.filled(96);
        z.trim(16);
        z.append(1, 1);
        z.cutAfter(1);
        z.sync();
        CHECKS.same("current: cut behind block 5", 0, z.told(0));
        z.start();
        CHECKS.same("current: started behind that", 5, z.told(0));
    }

    /** "NONE for another what". */
    private static void toldOfEachNumber() {
        PairedCells x = Logs.filled(96);
        x.cutAfter(60);
        x.trim(48);
        int[] due = {5, 1, 3, 60, -1, -1, -1, -1, -1, -1, 1, 1, 1, 0, 0, 0, -1, -1};
        for (int what = 0; what < due.length; what++) {
            CHECKS.same("told " + what, due[what], x.told(what));
        }
        for (int what : new int[] {Integer.MIN_VALUE, -2, -1, 100, Integer.MAX_VALUE}) {
            CHECKS.same("told " + what, PairedCells.NONE, x.told(what));
        }
        Logs.fill(x, 48);
        x.trim(x.count());
        for (int block = 0; block < 6; block++) {
            CHECKS.same("told: erasures of block " + block, block < 2 ? 2 : 1, x.told(10 + block));
        }
    }
}
