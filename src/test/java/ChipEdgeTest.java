/**
 * The boundary cases that the document's terms name for the chip: its pages and their order, cuts,
 * guard pages and what they rebuild. What is refused stands in RefusalTest.
 */
public final class ChipEdgeTest {
    private static final Checks CHECKS = new Checks();
    private static final int ERASED = 0;
    private static final int WRITTEN = 1;
    private static final int RUINED = 2;
    private static final int REBUILT = 3;
    private static final int PROGRAMMINGS_OF_BLOCK = 17;
    private static final int GUARD_AMONG_THEM = 8;

    public static void main(String[] args) {
        everyPageIsErasedAtFirst();
        pagesAreProgrammedInTheirOrder();
        lastPageAndGuardOfTheChip();
        blockIsErasedWithItsGuardPage();
        cutComesAtExactlyTheNthProgramming();
        cutOfAnUpperPageRuinsItsLowerOneAlone();
        cutOfAnUpperPageOverALowerOneThatIsNotCovered();
        cutOfALowerPageRuinsNoOther();
        noCutIsSetAnyMoreBehindACut();
        aRefusedOrEmptyFlushIsNoProgramming();
        cutGoesOnOverOffAndStart();
        aLaterCutTakesThePlaceOfTheFirst();
        nothingIsRebuiltBeforeTheGuardPage();
        nothingIsRebuiltByARuinedGuardPage();
        oneCoveredPageIsRebuiltTwoAreNot();
        anUncoveredPageIsNotRebuiltAndHindersNone();
        aGuardPageOfOnePageRebuildsThat();
        aGuardPageOfNoPageRebuildsNone();
        anUpperPageIsNeverRebuilt();
        aRebuiltPageHasTheBytesThatWereWritten();
        aGuardPageErasedWithItsBlockRebuildsNothing();
        guardPageComesBeforeTheUpperPageOfLine0Only();
        aRuinedGuardPageIsErasedByItself();
        guardPageIsTheSumOfTheWrittenPages();
        onlyAWrittenPageIsRuined();
        blocksCountAsErasedWithoutAnyPage();
        CHECKS.finish();
    }

    /** "A page is ERASED (at first)", "A chip that is erased". */
    private static void everyPageIsErasedAtFirst() {
        PairedCells x = new PairedCells();
        for (int block = 0; block < 6; block++) {
            CHECKS.same("new: erased pages of block " + block, 16, Logs.erasedPages(x, block));
            CHECKS.same("new: guard page of block " + block, ERASED, x.guard(block));
            CHECKS.same("new: erasures of block " + block, 0, x.told(10 + block));
        }
        CHECKS.same("new: erased blocks", 6, x.told(2));
    }

    /** "the lower ones of lines 0 .. 7, then the upper ones; none that is behind another one before that". */
    private static void pagesAreProgrammedInTheirOrder() {
        PairedCells x = new PairedCells();
        for (int k = 0; k < 96; k++) {
            CHECKS.same("order: page " + k + " before", ERASED, Logs.page(x, k / 16, k % 16));
            Logs.fill(x, 1);
            CHECKS.same("order: page " + k, WRITTEN, Logs.page(x, k / 16, k % 16));
        }
    }

    /** "BLOCKS 0 .. 5, each of LINES 0 .. 7, each of a LOWER and an UPPER page of 16 bytes; a GUARD page of 17". */
    private static void lastPageAndGuardOfTheChip() {
        PairedCells x = Logs.filled(95);
        x.append(6, 0xFFEEDDCCBBAAL);
        x.append(5, 0x1122334455L);
        x.sync();
        CHECKS.same("chip: first byte of the last page", 2, x.at(5, 7, true, 0));
        CHECKS.same("chip: last byte of the last page", 0x11, x.at(5, 7, true, 15));
        CHECKS.same("chip: last byte of the last guard page", 255, x.guarded(5, 16));
        CHECKS.same("chip: the last page can be ruined", true, x.ruin(5, 7, true));
        CHECKS.same("chip: and so can the first one", true, x.ruin(0, 0, false));
    }

    /** "A block is erased as a whole, with its guard page". */
    private static void blockIsErasedWithItsGuardPage() {
        PairedCells x = Logs.filled(48);
        x.trim(16);
        CHECKS.same("erasing: all pages of block 0", 16, Logs.erasedPages(x, 0));
        CHECKS.same("erasing: its guard page", ERASED, x.guard(0));
        CHECKS.same("erasing: it counts", 1, x.told(10));
        for (int block = 1; block <= 2; block++) {
            CHECKS.same("erasing: no page of block " + block, 0, Logs.erasedPages(x, block));
            CHECKS.same("erasing: nor its guard page", WRITTEN, x.guard(block));
            CHECKS.same("erasing: nor does it count", 0, x.told(10 + block));
        }
    }

    /** "for the n-th programming from then on (of pages and guard pages)", "n is not 0 .. 60". */
    private static void cutComesAtExactlyTheNthProgramming() {
        for (int n = 1; n <= 60; n++) {
            PairedCells x = new PairedCells();
            x.cutAfter(n);
            int pages = pagesAmong(n - 1);
            for (int k = 0; k < pages; k++) {
                CHECKS.same("cut " + n + ": left", n - programmings(k), x.told(3));
                Logs.fill(x, 1);
                CHECKS.same("cut " + n + ": power behind page " + k, 1, x.told(1));
            }
            x.append(1, 1);
            CHECKS.same("cut " + n, PairedCells.CUT, x.sync());
            CHECKS.same("cut " + n + ": power", 0, x.told(1));
            int block = (n - 1) / PROGRAMMINGS_OF_BLOCK;
            int place = (n - 1) % PROGRAMMINGS_OF_BLOCK;
            boolean atGuard = place == GUARD_AMONG_THEM;
            CHECKS.same("cut " + n + ": guard page", atGuard ? RUINED : place < 8 ? ERASED : WRITTEN, x.guard(block));
            CHECKS.same("cut " + n + ": its page", atGuard ? ERASED : RUINED, Logs.page(x, block, pages % 16));
        }
    }

    /** How many programmings it takes to have that many pages, with the guard pages before them. */
    private static int programmings(int pages) {
        return pages + pages / 16 + (pages % 16 > 8 ? 1 : 0);
    }

    private static int pagesAmong(int programmings) {
        int pages = 0;
        while (programmings(pages + 1) <= programmings) {
            pages++;
        }
        return pages;
    }

    /** "its page is ruined, and, if it is an upper page, the lower one of its line, too". */
    private static void cutOfAnUpperPageRuinsItsLowerOneAlone() {
        for (int line = 0; line < 8; line++) {
            PairedCells x = cutAtUpper(line);
            for (int other = 0; other < 8; other++) {
                CHECKS.same("cut at upper " + line + ": lower page " + other, other == line ? REBUILT : WRITTEN,
                        x.page(0, other, false));
                CHECKS.same("cut at upper " + line + ": upper page " + other,
                        other < line ? WRITTEN : other == line ? RUINED : ERASED, x.page(0, other, true));
            }
            CHECKS.same("cut at upper " + line + ": guard page", WRITTEN, x.guard(0));
        }
    }

    private static PairedCells cutAtUpper(int line) {
        PairedCells x = Logs.filled(8 + line);
        x.append(1, 1);
        x.cutAfter(line == 0 ? 2 : 1);
        CHECKS.same("cut at upper " + line, PairedCells.CUT, x.sync());
        return x;
    }

    private static void cutOfAnUpperPageOverALowerOneThatIsNotCovered() {
        PairedCells x = Logs.filled(8);
        x.ruin(0, 1, false);
        Logs.fill(x, 1);
        x.append(1, 1);
        x.cutAfter(1);
        x.sync();
        CHECKS.same("cut over an uncovered page: it", RUINED, x.page(0, 1, false));
        CHECKS.same("cut over an uncovered page: the upper one", RUINED, x.page(0, 1, true));
        CHECKS.same("cut over an uncovered page: the next line", WRITTEN, x.page(0, 2, false));
    }

    private static void cutOfALowerPageRuinsNoOther() {
        for (int line = 0; line < 8; line++) {
            PairedCells x = Logs.filled(line);
            x.append(1, 1);
            x.cutAfter(1);
            x.sync();
            for (int place = 0; place < 16; place++) {
                CHECKS.same("cut at lower " + line + ": page " + place,
                        place < line ? WRITTEN : place == line ? RUINED : ERASED, Logs.page(x, 0, place));
            }
        }
    }

    /** "then the POWER IS OFF (and no cut is set any more)". */
    private static void noCutIsSetAnyMoreBehindACut() {
        PairedCells x = Logs.filled(2);
        x.cutAfter(1);
        x.append(1, 1);
        x.sync();
        CHECKS.same("cut: none is set", 0, x.told(3));
        x.start();
        CHECKS.same("cut: nor behind the start", 0, x.told(3));
        Logs.fill(x, 80);
        CHECKS.same("cut: so none comes", 1, x.told(1));
    }

    private static void aRefusedOrEmptyFlushIsNoProgramming() {
        PairedCells x = new PairedCells();
        x.cutAfter(1);
        CHECKS.same("cut: an empty open page is not programmed", 0, x.sync());
        CHECKS.same("cut: so it stays set", 1, x.told(3));
        Logs.fillOpenPage(x);
        CHECKS.same("cut: nor is one that takes the event", 1, x.told(3));
        CHECKS.same("cut: but the one behind it", PairedCells.CUT, x.append(1, 1));
    }

    private static void cutGoesOnOverOffAndStart() {
        PairedCells x = Logs.filled(1);
        x.cutAfter(2);
        x.off();
        CHECKS.same("cut: stays set with the power off", 2, x.told(3));
        x.start();
        CHECKS.same("cut: and behind the start", 2, x.told(3));
        Logs.fill(x, 1);
        x.append(1, 1);
        CHECKS.same("cut: and comes", PairedCells.CUT, x.sync());
    }

    /** "The cut is set for the n-th programming from now on, or, with 0, is not set." */
    private static void aLaterCutTakesThePlaceOfTheFirst() {
        PairedCells x = new PairedCells();
        x.cutAfter(1);
        x.cutAfter(3);
        Logs.fill(x, 2);
        CHECKS.same("cutAfter: the later one", 1, x.told(3));
        x.cutAfter(0);
        CHECKS.same("cutAfter: none", 0, x.told(3));
        Logs.fill(x, 60);
        CHECKS.same("cutAfter: none comes", 1, x.told(1));
        x.cutAfter(60);
        x.append(1, 1);
        x.cutAfter(1);
        CHECKS.same("cutAfter: the next programming", PairedCells.CUT, x.sync());
    }

    /** "if it is ruined, and the block's guard page is written". */
    private static void nothingIsRebuiltBeforeTheGuardPage() {
        PairedCells x = Logs.filled(8);
        x.ruin(0, 4, false);
        CHECKS.same("rebuilt: without a guard page", RUINED, x.page(0, 4, false));
        CHECKS.same("rebuilt: so its event is lost", PairedCells.NONE, x.length(4));
        PairedCells y = Logs.filled(9);
        y.ruin(0, 4, false);
        CHECKS.same("rebuilt: with a guard page", REBUILT, y.page(0, 4, false));
        CHECKS.same("rebuilt: so its event is there", 104, y.event(4));
    }

    private static void nothingIsRebuiltByARuinedGuardPage() {
        PairedCells x = Logs.filled(8);
        x.append(1, 1);
        x.cutAfter(1);
        x.sync();
        CHECKS.same("rebuilt: the guard page", RUINED, x.guard(0));
        x.ruin(0, 4, false);
        CHECKS.same("rebuilt: by a ruined guard page", RUINED, x.page(0, 4, false));
        PairedCells y = Logs.filled(96);
        y.trim(16);
        Logs.fill(y, 8);
        y.append(1, 1);
        y.cutAfter(1);
        y.sync();
        CHECKS.same("rebuilt: the guard page of a block used again", RUINED, y.guard(0));
        y.ruin(0, 4, false);
        CHECKS.same("rebuilt: by a page that was written once", RUINED, y.page(0, 4, false));
    }

    /** "and all others that this covers are written". */
    private static void oneCoveredPageIsRebuiltTwoAreNot() {
        for (int line = 0; line < 8; line++) {
            for (int other = 0; other < 8; other++) {
                PairedCells x = Logs.filled(9);
                x.ruin(0, line, false);
                CHECKS.same("rebuilt: " + line, REBUILT, x.page(0, line, false));
                if (other != line) {
                    x.ruin(0, other, false);
                    CHECKS.same("rebuilt: " + line + " with " + other, RUINED, x.page(0, line, false));
                    CHECKS.same("rebuilt: " + other + " with " + line, RUINED, x.page(0, other, false));
                }
            }
        }
        PairedCells y = Logs.filled(25);
        y.ruin(0, 2, false);
        y.ruin(1, 2, false);
        CHECKS.same("rebuilt: one in each of two blocks", REBUILT, y.page(0, 2, false));
        CHECKS.same("rebuilt: and the other", REBUILT, y.page(1, 2, false));
    }

    /** "and covers it, and all others that this covers are written". */
    private static void anUncoveredPageIsNotRebuiltAndHindersNone() {
        for (int line = 0; line < 8; line++) {
            PairedCells x = Logs.filled(8);
            x.ruin(0, line, false);
            Logs.fill(x, 1);
            CHECKS.same("uncovered " + line, RUINED, x.page(0, line, false));
            int next = (line + 1) % 8;
            x.ruin(0, next, false);
            CHECKS.same("uncovered " + line + ": rebuilt is", REBUILT, x.page(0, next, false));
            CHECKS.same("uncovered " + line + ": with its event", 100 + next, x.event(next));
            CHECKS.same("uncovered " + line + ": it stays", RUINED, x.page(0, line, false));
        }
    }

    private static void aGuardPageOfOnePageRebuildsThat() {
        PairedCells x = Logs.filled(8);
        Logs.ruinLower(x, 0, 1, 7);
        Logs.fill(x, 1);
        CHECKS.same("guard of one: it covers", 1, x.guarded(0, 16));
        x.ruin(0, 0, false);
        CHECKS.same("guard of one: rebuilt", REBUILT, x.page(0, 0, false));
        CHECKS.same("guard of one: its event", 100, x.event(0));
        PairedCells y = Logs.filled(8);
        Logs.ruinLower(y, 0, 0, 6);
        Logs.fill(y, 1);
        CHECKS.same("guard of the last one: it covers", 128, y.guarded(0, 16));
        y.ruin(0, 7, false);
        CHECKS.same("guard of the last one: its event", 107, y.event(7));
    }

    private static void aGuardPageOfNoPageRebuildsNone() {
        PairedCells x = Logs.filled(8);
        Logs.ruinLower(x, 0, 0, 7);
        Logs.fill(x, 1);
        CHECKS.same("guard of none: it is written", WRITTEN, x.guard(0));
        for (int k = 0; k < 17; k++) {
            CHECKS.same("guard of none: byte " + k, 0, x.guarded(0, k));
        }
        for (int line = 0; line < 8; line++) {
            CHECKS.same("guard of none: page " + line, RUINED, x.page(0, line, false));
        }
    }

    /** "A lower page is REBUILT". */
    private static void anUpperPageIsNeverRebuilt() {
        PairedCells x = Logs.filled(16);
        for (int line = 0; line < 8; line++) {
            CHECKS.same("upper page " + line + " is ruined", true, x.ruin(0, line, true));
            CHECKS.same("upper page " + line, RUINED, x.page(0, line, true));
            CHECKS.same("upper page " + line + ": its event", PairedCells.NONE, x.length(8 + line));
        }
    }

    /** "it is the guard page's first 16 bytes ^ all these". */
    private static void aRebuiltPageHasTheBytesThatWereWritten() {
        for (int line = 0; line < 8; line++) {
            PairedCells x = new PairedCells();
            for (int k = 0; k < 9; k++) {
                x.append(6, 0x9E3779B97F4AL * (k + 1));
                x.append(5, 0x7F4A7C15L * (k + 7));
                x.sync();
            }
            int[] before = new int[16];
            for (int k = 0; k < 16; k++) {
                before[k] = x.at(0, line, false, k);
            }
            x.ruin(0, line, false);
            for (int k = 0; k < 16; k++) {
                CHECKS.same("rebuilt " + line + ": byte " + k, before[k], x.at(0, line, false, k));
            }
            CHECKS.same("rebuilt " + line + ": event", 0x9E3779B97F4AL * (line + 1) & 0xFFFFFFFFFFFFL,
                    x.event(2 * line));
            CHECKS.same("rebuilt " + line + ": the one behind it", 5, x.length(2 * line + 1));
        }
    }

    private static void aGuardPageErasedWithItsBlockRebuildsNothing() {
        PairedCells x = Logs.filled(96);
        x.trim(16);
        Logs.fill(x, 8);
        x.ruin(0, 3, false);
        CHECKS.same("guard of before: rebuilds nothing", RUINED, x.page(0, 3, false));
        Logs.fill(x, 1);
        CHECKS.same("guard of now: covers the written", 0xFF & ~8, x.guarded(0, 16));
        CHECKS.same("guard of now: nor does it", RUINED, x.page(0, 3, false));
        x.ruin(0, 4, false);
        CHECKS.same("guard of now: rebuilds", 200, x.event(100));
    }

    /** "If the page is to be the upper one of line 0, the guard page is ... programmed". */
    private static void guardPageComesBeforeTheUpperPageOfLine0Only() {
        PairedCells x = new PairedCells();
        for (int k = 0; k < 32; k++) {
            CHECKS.same("guard before page " + k, k % 16 > 8 ? WRITTEN : ERASED, x.guard(k / 16));
            x.cutAfter(10);
            Logs.fill(x, 1);
            CHECKS.same("programmings of page " + k, k % 16 == 8 ? 2 : 1, 10 - x.told(3));
            CHECKS.same("guard behind page " + k, k % 16 >= 8 ? WRITTEN : ERASED, x.guard(k / 16));
        }
        PairedCells y = Logs.filled(8);
        y.append(1, 1);
        y.cutAfter(2);
        y.sync();
        CHECKS.same("cut behind the guard: it is written", WRITTEN, y.guard(0));
        CHECKS.same("cut behind the guard: the page is ruined", RUINED, y.page(0, 0, true));
    }

    /** "the guard page is erased if it is ruined, and programmed"; "can be erased by itself, too". */
    private static void aRuinedGuardPageIsErasedByItself() {
        PairedCells x = Logs.filled(8);
        for (int k = 0; k < 3; k++) {
            x.append(1, 1);
            x.cutAfter(1);
            CHECKS.same("guard ruined: cut", PairedCells.CUT, x.sync());
            CHECKS.same("guard ruined: it", RUINED, x.guard(0));
            CHECKS.same("guard ruined: upper page", ERASED, x.page(0, 0, true));
            CHECKS.same("guard ruined: all events stay", 8, x.start());
            CHECKS.same("guard ruined: the start leaves it", RUINED, x.guard(0));
        }
        x.cutAfter(3);
        Logs.fill(x, 1);
        CHECKS.same("guard ruined: written then", WRITTEN, x.guard(0));
        CHECKS.same("guard ruined: erasing is no programming", 1, x.told(3));
        CHECKS.same("guard ruined: nor was the block erased", 0, x.told(10));
        CHECKS.same("guard ruined: lower pages stay", WRITTEN, x.page(0, 0, false));
        CHECKS.same("guard ruined: it covers all", 255, x.guarded(0, 16));
    }

    /** "the ^ of all lower pages of the block that are written, and as byte 16 these as bits". */
    private static void guardPageIsTheSumOfTheWrittenPages() {
        for (int bits = 0; bits < 256; bits++) {
            PairedCells x = Logs.filled(8);
            int sum = 0;
            int events = 0;
            for (int line = 0; line < 8; line++) {
                if ((bits >> line & 1) == 0) {
                    x.ruin(0, line, false);
                } else {
                    sum ^= 100 + line;
                    events ^= 1;
                }
            }
            Logs.fill(x, 1);
            CHECKS.same("guard " + bits + ": covers", bits, x.guarded(0, 16));
            CHECKS.same("guard " + bits + ": how many events", events, x.guarded(0, 0));
            CHECKS.same("guard " + bits + ": length", events, x.guarded(0, 3));
            CHECKS.same("guard " + bits + ": bytes", sum, x.guarded(0, 4));
            CHECKS.same("guard " + bits + ": the last of the page", 0, x.guarded(0, 15));
        }
    }

    /** "A written page is ruined, by itself: false when it is not written." */
    private static void onlyAWrittenPageIsRuined() {
        PairedCells x = Logs.filled(9);
        CHECKS.same("ruin: erased", false, x.ruin(0, 1, true));
        CHECKS.same("ruin: it stays erased", ERASED, x.page(0, 1, true));
        CHECKS.same("ruin: written upper", true, x.ruin(0, 0, true));
        CHECKS.same("ruin: not the lower one of its line", WRITTEN, x.page(0, 0, false));
        CHECKS.same("ruin: ruined", false, x.ruin(0, 0, true));
        CHECKS.same("ruin: written lower", true, x.ruin(0, 6, false));
        CHECKS.same("ruin: rebuilt", false, x.ruin(0, 6, false));
        CHECKS.same("ruin: it stays rebuilt", REBUILT, x.page(0, 6, false));
        CHECKS.same("ruin: not the guard page", WRITTEN, x.guard(0));
        x.off();
        CHECKS.same("ruin: with the power off", true, x.ruin(0, 7, false));
        CHECKS.same("ruin: not twice then", false, x.ruin(0, 7, false));
        CHECKS.same("ruin: so none is rebuilt", RUINED, x.page(0, 6, false));
    }

    /** "how many blocks are erased": not one with a single page, were it ruined. */
    private static void blocksCountAsErasedWithoutAnyPage() {
        PairedCells x = Logs.filled(16);
        CHECKS.same("erased blocks: five", 5, x.told(2));
        Logs.fill(x, 1);
        CHECKS.same("erased blocks: a page makes one less", 4, x.told(2));
        x.ruin(1, 0, false);
        CHECKS.same("erased blocks: ruined or not", 4, x.told(2));
        Logs.restart(x);
        CHECKS.same("erased blocks: the start erases it", 5, x.told(2));
        Logs.fill(x, 80);
        CHECKS.same("erased blocks: none", 0, x.told(2));
    }
}
