import java.util.NoSuchElementException;

/** Each promise of the document: ordinary inputs, the edges that it names, and wrong inputs. */
public final class PromiseTest {
    private static final Checks CHECKS = new Checks();
    private static final Class<IllegalStateException> STATE = IllegalStateException.class;
    private static final Class<IllegalArgumentException> ARGUMENT = IllegalArgumentException.class;
    private static final Class<IndexOutOfBoundsException> INDEX = IndexOutOfBoundsException.class;
    private static final Class<UnsupportedOperationException> FULL = UnsupportedOperationException.class;
    private static final Class<NoSuchElementException> NO_ELEMENT = NoSuchElementException.class;
    private static final int[] WRONG_BLOCKS = {-1, 6, Integer.MIN_VALUE, Integer.MAX_VALUE};
    private static final int[] WRONG_LINES = {-1, 8, Integer.MIN_VALUE, Integer.MAX_VALUE};

    public static void main(String[] args) {
        newObject();
        append();
        appendPagesLayout();
        appendWhenFull();
        sync();
        syncWhenFull();
        cutAfter();
        cutAtLowerPage();
        cutAtUpperPage();
        cutAtGuardPage();
        off();
        start();
        startErasesUnreadableBlocks();
        startFindsCurrentBlock();
        trim();
        trimOfUnreadableBlocks();
        trimmedEventsComeBack();
        firstAndCount();
        length();
        event();
        eventWithHighNumber();
        ruin();
        page();
        at();
        guard();
        guardWithoutRuinedPages();
        guardOfBlockUsedAgain();
        guarded();
        told();
        CHECKS.finish();
    }

    private static void newObject() {
        PairedCells x = new PairedCells();
        CHECKS.same("new: power", 1, x.told(1));
        CHECKS.same("new: current block", 0, x.told(0));
        CHECKS.same("new: cut", 0, x.told(3));
        CHECKS.same("new: erased blocks", 6, x.told(2));
        CHECKS.same("new: count", 0, x.count());
        CHECKS.same("new: first", 0, x.first());
        for (int b = 0; b < 6; b++) {
            CHECKS.same("new: erasures", 0, x.told(10 + b));
            CHECKS.same("new: guard", 0, x.guard(b));
            for (int line = 0; line < 8; line++) {
                CHECKS.same("new: lower page", 0, x.page(b, line, false));
                CHECKS.same("new: upper page", 0, x.page(b, line, true));
            }
        }
    }

    private static void append() {
        PairedCells x = new PairedCells();
        CHECKS.same("append: number", 0, x.append(1, -1));
        CHECKS.same("append: next number", 1, x.append(6, -1));
        CHECKS.same("append: lowest bytes only", 255, x.event(0));
        CHECKS.same("append: six bytes", 0xFFFFFFFFFFFFL, x.event(1));
        for (int n : new int[] {0, 7, -1, Integer.MIN_VALUE, Integer.MAX_VALUE}) {
            CHECKS.fails("append: n = " + n, ARGUMENT, () -> x.append(n, 1));
        }
        CHECKS.same("append: a wrong n appends nothing", 2, x.count());
        x.off();
        CHECKS.fails("append: power off", STATE, () -> x.append(1, 1));
        CHECKS.fails("append: power off goes before n", STATE, () -> x.append(0, 1));
    }

    private static void appendPagesLayout() {
        PairedCells x = new PairedCells();
        x.append(6, 0x060504030201L);
        x.append(5, 0x0B0A090807L);
        CHECKS.same("append: 13 bytes of events fit", 0, x.page(0, 0, false));
        x.append(1, 0x77);
        CHECKS.same("append: one more flushes", 1, x.page(0, 0, false));
        CHECKS.same("append: one page only", 0, x.page(0, 1, false));
        int[] due = {2, 0, 0, 6, 1, 2, 3, 4, 5, 6, 5, 7, 8, 9, 10, 11};
        for (int k = 0; k < 16; k++) {
            CHECKS.same("append: byte " + k, due[k], x.at(0, 0, false, k));
        }
        x.sync();
        int[] dueNext = {1, 0, 2, 1, 0x77, 0, 0, 0, 0, 0, 0, 0, 0, 0, 0, 0};
        for (int k = 0; k < 16; k++) {
            CHECKS.same("append: next page's byte " + k, dueNext[k], x.at(0, 1, false, k));
        }
    }

    private static void appendWhenFull() {
        PairedCells x = Logs.filled(96);
        CHECKS.same("full: the last block is current", 5, x.told(0));
        CHECKS.same("full: an event still fits in the open page", 96, x.append(6, 1));
        CHECKS.same("full: and another one", 97, x.append(5, 2));
        CHECKS.fails("full: append", FULL, () -> x.append(1, 3));
        CHECKS.fails("full: a wrong n goes before it", ARGUMENT, () -> x.append(7, 3));
        CHECKS.same("full: nothing changed in count", 98, x.count());
        CHECKS.same("full: nor in the current block", 5, x.told(0));
        CHECKS.same("full: nor in the open page", 2, x.event(97));
        x.trim(16);
        CHECKS.same("full: a trimmed block makes room", 98, x.append(1, 3));
        CHECKS.same("full: behind block 5 comes 0", 0, x.told(0));
        CHECKS.same("full: its first page", 1, x.page(0, 0, false));
        CHECKS.same("full: its events", 2, x.at(0, 0, false, 0));
    }

    private static void sync() {
        PairedCells x = new PairedCells();
        CHECKS.same("sync: no events", 0, x.sync());
        CHECKS.same("sync: no page for no events", 0, x.page(0, 0, false));
        x.append(1, 1);
        x.append(1, 2);
        CHECKS.same("sync: count", 2, x.sync());
        CHECKS.same("sync: page", 1, x.page(0, 0, false));
        CHECKS.same("sync: again", 2, x.sync());
        CHECKS.same("sync: no page more", 0, x.page(0, 1, false));
        Logs.restart(x);
        CHECKS.same("sync: what was written stays", 2, x.event(1));
        for (int line = 1; line < 8; line++) {
            Logs.fill(x, 1);
            CHECKS.same("sync: lower pages in their order", 1, x.page(0, line, false));
        }
        for (int line = 0; line < 8; line++) {
            CHECKS.same("sync: upper page before", 0, x.page(0, line, true));
            Logs.fill(x, 1);
            CHECKS.same("sync: upper pages in their order", 1, x.page(0, line, true));
        }
        CHECKS.same("sync: the block stays the current one", 0, x.told(0));
        Logs.fill(x, 1);
        CHECKS.same("sync: the next block", 1, x.told(0));
        CHECKS.same("sync: its first page", 1, x.page(1, 0, false));
        x.off();
        CHECKS.fails("sync: power off", STATE, x::sync);
    }

    private static void syncWhenFull() {
        PairedCells x = Logs.filled(96);
        CHECKS.same("full: sync of no events", 96, x.sync());
        x.append(1, 5);
        x.cutAfter(1);
        CHECKS.fails("full: sync", FULL, x::sync);
        CHECKS.same("full: sync changes no block", 5, x.told(0));
        CHECKS.same("full: sync is no programming", 1, x.told(3));
        CHECKS.same("full: sync keeps the events", 5, x.event(96));
        x.off();
        CHECKS.fails("full: power off goes before it", STATE, x::sync);
    }

    private static void cutAfter() {
        PairedCells x = new PairedCells();
        for (int n : new int[] {-1, 61, Integer.MIN_VALUE, Integer.MAX_VALUE}) {
            CHECKS.fails("cutAfter: " + n, ARGUMENT, () -> x.cutAfter(n));
        }
        CHECKS.same("cutAfter: a wrong one sets nothing", 0, x.told(3));
        x.cutAfter(60);
        CHECKS.same("cutAfter: 60", 60, x.told(3));
        x.cutAfter(0);
        CHECKS.same("cutAfter: 0", 0, x.told(3));
        Logs.fill(x, 1);
        CHECKS.same("cutAfter: 0 cuts nothing", 1, x.told(1));
        x.cutAfter(3);
        Logs.fill(x, 2);
        CHECKS.same("cutAfter: counts programmings", 1, x.told(3));
        Logs.restart(x);
        CHECKS.same("cutAfter: stays set over off and start", 1, x.told(3));
        x.off();
        x.cutAfter(2);
        CHECKS.same("cutAfter: goes with the power off", 2, x.told(3));
        x.start();
        Logs.fill(x, 1);
        CHECKS.same("cutAfter: not yet", 1, x.told(1));
        x.append(1, 1);
        CHECKS.same("cutAfter: now", PairedCells.CUT, x.sync());
        CHECKS.same("cutAfter: no cut is set any more", 0, x.told(3));
        CHECKS.same("cutAfter: power", 0, x.told(1));
    }

    private static void cutAtLowerPage() {
        PairedCells x = Logs.filled(2);
        x.cutAfter(1);
        x.append(6, 1);
        x.append(5, 2);
        CHECKS.same("cut: append", PairedCells.CUT, x.append(1, 3));
        CHECKS.same("cut: the page is ruined", 2, x.page(0, 2, false));
        CHECKS.same("cut: the one before is not", 1, x.page(0, 1, false));
        CHECKS.fails("cut: power off", STATE, () -> x.append(1, 3));
        CHECKS.same("cut: the events are gone", 2, x.start());
        CHECKS.same("cut: the numbers go on", 2, x.append(1, 4));
        x.sync();
        CHECKS.same("cut: a ruined lower page is passed over", 1, x.page(0, 3, false));
        CHECKS.same("cut: the block stays", 0, x.told(0));
        PairedCells y = Logs.filled(16);
        y.append(1, 9);
        y.cutAfter(1);
        y.sync();
        CHECKS.same("cut: the next block is the current one", 1, y.told(0));
        y.start();
        CHECKS.same("cut: until the start", 0, y.told(0));
        CHECKS.same("cut: that erases its block", 1, y.told(11));
    }

    private static void cutAtUpperPage() {
        for (int line = 0; line < 8; line++) {
            PairedCells x = Logs.filled(8 + line);
            x.append(1, 9);
            x.cutAfter(line == 0 ? 2 : 1);
            CHECKS.same("cut: sync", PairedCells.CUT, x.sync());
            CHECKS.same("cut: upper page", 2, x.page(0, line, true));
            CHECKS.same("cut: lower page is rebuilt", 3, x.page(0, line, false));
            CHECKS.same("cut: what was written stays", 8 + line, x.start());
            CHECKS.same("cut: also on the lower page", 100 + line, x.event(line));
            Logs.fill(x, 1);
            CHECKS.same("cut: the block takes no more", 1, x.told(0));
            CHECKS.same("cut: the next one does", 1, x.page(1, 0, false));
        }
    }

    private static void cutAtGuardPage() {
        PairedCells x = Logs.filled(8);
        x.append(1, 9);
        x.cutAfter(1);
        CHECKS.same("cut: guard", PairedCells.CUT, x.sync());
        CHECKS.same("cut: the guard page is ruined", 2, x.guard(0));
        CHECKS.same("cut: not the upper page", 0, x.page(0, 0, true));
        CHECKS.same("cut: nor the lower page", 1, x.page(0, 0, false));
        CHECKS.same("cut: all events stay", 8, x.start());
        Logs.fill(x, 1);
        CHECKS.same("cut: the guard page is programmed again", 1, x.guard(0));
        CHECKS.same("cut: and the upper page", 1, x.page(0, 0, true));
        CHECKS.same("cut: no block was erased", 0, x.told(10));
    }

    private static void off() {
        PairedCells x = Logs.filled(1);
        x.append(1, 1);
        x.append(2, 2);
        CHECKS.same("off: events in the open page", 2, x.off());
        CHECKS.same("off: power", 0, x.told(1));
        CHECKS.fails("off: twice", STATE, x::off);
        CHECKS.same("off: they are gone", 1, x.start());
        CHECKS.same("off: none in the open page", 0, x.off());
    }

    private static void start() {
        PairedCells x = new PairedCells();
        CHECKS.fails("start: power on", STATE, x::start);
        x.off();
        CHECKS.same("start: no events", 0, x.start());
        CHECKS.same("start: first of none", 0, x.first());
        CHECKS.same("start: power", 1, x.told(1));
        Logs.fill(x, 3);
        x.append(1, 1);
        x.ruin(0, 0, false);
        Logs.restart(x);
        CHECKS.same("start: first readable", 1, x.first());
        CHECKS.same("start: count", 3, x.count());
        x.ruin(0, 2, false);
        x.off();
        CHECKS.same("start: the greatest readable", 2, x.start());
        CHECKS.same("start: the number goes on behind it", 2, x.append(1, 7));
        x.sync();
        CHECKS.same("start: on the next page", 1, x.page(0, 3, false));
    }

    private static void startErasesUnreadableBlocks() {
        PairedCells x = Logs.filled(18);
        x.ruin(1, 0, false);
        Logs.restart(x);
        CHECKS.same("start: a block with a readable page stays", 0, x.told(11));
        x.ruin(1, 1, false);
        x.off();
        CHECKS.same("start: count without it", 16, x.start());
        CHECKS.same("start: a block with none is erased", 1, x.told(11));
        CHECKS.same("start: its pages", 0, x.page(1, 0, false));
        CHECKS.same("start: erased blocks are not erased", 0, x.told(12));
        CHECKS.same("start: all are erased but one", 5, x.told(2));
        Logs.ruinBlock(x, 0);
        CHECKS.same("start: a guard page is written still", 1, x.guard(0));
        Logs.restart(x);
        CHECKS.same("start: it is erased with the block", 0, x.guard(0));
        CHECKS.same("start: no event is left", 0, x.count());
        CHECKS.same("start: so block 0 is current", 0, x.told(0));
        CHECKS.same("start: it was erased once", 1, x.told(10));
    }

    private static void startFindsCurrentBlock() {
        PairedCells x = Logs.filled(96);
        x.trim(32);
        Logs.fill(x, 3);
        CHECKS.same("start: current before", 0, x.told(0));
        Logs.restart(x);
        CHECKS.same("start: the block with the greatest event", 0, x.told(0));
        CHECKS.same("start: count", 99, x.count());
        CHECKS.same("start: first", 32, x.first());
        for (int line = 0; line < 3; line++) {
            x.ruin(0, line, false);
        }
        Logs.restart(x);
        CHECKS.same("start: the block before", 5, x.told(0));
        PairedCells y = Logs.filled(40);
        for (int line = 0; line < 8; line++) {
            y.ruin(2, line, false);
        }
        y.off();
        CHECKS.same("start: told as it was when the power went off", 2, y.told(0));
        y.start();
        CHECKS.same("start: a greater event before", 1, y.told(0));
        CHECKS.same("start: its number", 32, y.count());
        Logs.ruinBlock(y, 0);
        Logs.ruinBlock(y, 1);
        Logs.restart(y);
        CHECKS.same("start: block 0 if there are no events", 0, y.told(0));
        CHECKS.same("start: all blocks are erased then", 6, y.told(2));
    }

    private static void trim() {
        PairedCells x = Logs.filled(40);
        x.append(1, 1);
        CHECKS.fails("trim: -1", ARGUMENT, () -> x.trim(-1));
        CHECKS.fails("trim: behind count()", ARGUMENT, () -> x.trim(42));
        CHECKS.same("trim: to the first", 0, x.trim(0));
        CHECKS.same("trim: a block with event n stays", 0, x.trim(15));
        CHECKS.same("trim: first", 15, x.first());
        CHECKS.fails("trim: before first()", ARGUMENT, () -> x.trim(14));
        CHECKS.same("trim: a block with older events goes", 1, x.trim(16));
        CHECKS.same("trim: it is erased", 0, x.page(0, 0, false));
        CHECKS.same("trim: its guard page, too", 0, x.guard(0));
        CHECKS.same("trim: its erasures", 1, x.told(10));
        CHECKS.same("trim: an erased block is not erased again", 0, x.trim(16));
        CHECKS.same("trim: to count(), but for the current one", 1, x.trim(41));
        CHECKS.same("trim: the current one stays", 1, x.page(2, 0, false));
        CHECKS.same("trim: first is count()", 41, x.first());
        CHECKS.same("trim: none is left", 41, x.count());
        CHECKS.fails("trim: event before", INDEX, () -> x.event(40));
        CHECKS.fails("trim: length before", INDEX, () -> x.length(40));
        x.off();
        CHECKS.fails("trim: power off", STATE, () -> x.trim(41));
        CHECKS.fails("trim: power off goes before n", STATE, () -> x.trim(-1));
        PairedCells y = Logs.filled(40);
        CHECKS.same("trim: two at once", 2, y.trim(32));
    }

    private static void trimOfUnreadableBlocks() {
        PairedCells x = Logs.filled(33);
        for (int line = 0; line < 8; line++) {
            x.ruin(1, line, true);
        }
        x.ruin(1, 7, false);
        CHECKS.same("trim: a rebuilt page is readable", 1, x.trim(23));
        CHECKS.same("trim: its block stays", 0, x.told(11));
        x.ruin(1, 6, false);
        CHECKS.same("trim: two are not rebuilt", 1, x.trim(23));
        CHECKS.same("trim: so their block goes", 1, x.told(11));
        PairedCells y = Logs.filled(17);
        Logs.ruinBlock(y, 0);
        CHECKS.same("trim: a block without a readable page goes", 1, y.trim(0));
    }

    private static void trimmedEventsComeBack() {
        PairedCells x = Logs.filled(3);
        x.append(1, 50);
        x.trim(4);
        CHECKS.same("trim: the open page is flushed all the same", 4, x.sync());
        x.off();
        x.start();
        CHECKS.same("trim: the start tells the first one on the chip", 0, x.first());
        CHECKS.same("trim: an event of the open page", 50, x.event(3));
    }

    private static void firstAndCount() {
        PairedCells x = new PairedCells();
        x.append(1, 1);
        CHECKS.same("first: in the open page", 0, x.first());
        CHECKS.same("count: in the open page", 1, x.count());
        x.trim(1);
        CHECKS.same("first: that of count()", 1, x.first());
        x.append(1, 2);
        CHECKS.same("first: the next one", 1, x.first());
        CHECKS.same("count: the trimmed are counted", 2, x.count());
        x.off();
        CHECKS.fails("first: power off", STATE, x::first);
        CHECKS.fails("count: power off", STATE, x::count);
        PairedCells y = Logs.filled(2);
        y.ruin(0, 0, false);
        CHECKS.same("first: a lost one", 0, y.first());
    }

    private static void length() {
        PairedCells x = new PairedCells();
        for (int n = 1; n <= 6; n++) {
            x.append(n, 0);
        }
        for (int n = 1; n <= 6; n++) {
            CHECKS.same("length: " + n, n, x.length(n - 1));
        }
        CHECKS.fails("length: -1", INDEX, () -> x.length(-1));
        CHECKS.fails("length: count()", INDEX, () -> x.length(6));
        x.ruin(0, 0, false);
        CHECKS.same("length: lost", PairedCells.NONE, x.length(0));
        x.off();
        CHECKS.fails("length: power off", STATE, () -> x.length(0));
        CHECKS.fails("length: power off goes before i", STATE, () -> x.length(-1));
    }

    private static void event() {
        PairedCells x = new PairedCells();
        long w = 0x8182838485868788L;
        for (int n = 1; n <= 6; n++) {
            x.append(n, w);
        }
        for (int n = 1; n <= 6; n++) {
            CHECKS.same("event: " + n, w & (1L << 8 * n) - 1, x.event(n - 1));
        }
        CHECKS.fails("event: -1", INDEX, () -> x.event(-1));
        CHECKS.fails("event: count()", INDEX, () -> x.event(6));
        x.ruin(0, 0, false);
        CHECKS.fails("event: lost", NO_ELEMENT, () -> x.event(0));
        x.trim(1);
        CHECKS.fails("event: trimmed goes before lost", INDEX, () -> x.event(0));
        x.off();
        CHECKS.fails("event: power off", STATE, () -> x.event(1));
        CHECKS.fails("event: power off goes before i", STATE, () -> x.event(-1));
    }

    private static void eventWithHighNumber() {
        PairedCells x = new PairedCells();
        for (int k = 0; k < 300; k++) {
            x.append(1, k);
        }
        x.sync();
        CHECKS.same("event: 299", 299 & 255, x.event(299));
        CHECKS.same("event: the number's high byte", 1, x.at(3, 1, false, 1));
        CHECKS.same("event: its low byte", 294 & 255, x.at(3, 1, false, 2));
        CHECKS.same("event: 6 of one byte in a page", 6, x.at(3, 1, false, 0));
        Logs.restart(x);
        CHECKS.same("event: count", 300, x.count());
        CHECKS.same("event: 256", 0, x.event(256));
    }

    private static void ruin() {
        PairedCells x = Logs.filled(9);
        CHECKS.same("ruin: an erased page", false, x.ruin(0, 1, true));
        CHECKS.same("ruin: an upper page", true, x.ruin(0, 0, true));
        CHECKS.same("ruin: by itself", 1, x.page(0, 0, false));
        CHECKS.same("ruin: a ruined page", false, x.ruin(0, 0, true));
        CHECKS.same("ruin: a lower page", true, x.ruin(0, 3, false));
        CHECKS.same("ruin: a rebuilt page is not written", false, x.ruin(0, 3, false));
        CHECKS.same("ruin: and stays rebuilt", 3, x.page(0, 3, false));
        x.off();
        CHECKS.same("ruin: the power does not matter", true, x.ruin(0, 4, false));
        for (int b : WRONG_BLOCKS) {
            CHECKS.fails("ruin: block " + b, INDEX, () -> x.ruin(b, 0, false));
        }
        for (int line : WRONG_LINES) {
            CHECKS.fails("ruin: line " + line, INDEX, () -> x.ruin(0, line, true));
        }
    }

    private static void page() {
        PairedCells x = Logs.filled(9);
        CHECKS.same("page: erased", 0, x.page(0, 1, true));
        CHECKS.same("page: written", 1, x.page(0, 0, true));
        x.ruin(0, 0, true);
        CHECKS.same("page: ruined", 2, x.page(0, 0, true));
        x.ruin(0, 5, false);
        CHECKS.same("page: rebuilt", 3, x.page(0, 5, false));
        x.ruin(0, 6, false);
        CHECKS.same("page: two are not rebuilt", 2, x.page(0, 5, false));
        CHECKS.same("page: neither of them", 2, x.page(0, 6, false));
        x.off();
        CHECKS.same("page: the power does not matter", 1, x.page(0, 1, false));
        for (int b : WRONG_BLOCKS) {
            CHECKS.fails("page: block " + b, INDEX, () -> x.page(b, 0, false));
        }
        for (int line : WRONG_LINES) {
            CHECKS.fails("page: line " + line, INDEX, () -> x.page(5, line, false));
        }
        PairedCells y = Logs.filled(8);
        y.ruin(0, 0, false);
        CHECKS.same("page: no guard page yet", 2, y.page(0, 0, false));
    }

    private static void at() {
        PairedCells x = Logs.filled(9);
        CHECKS.same("at: written", 102, x.at(0, 2, false, 4));
        x.ruin(0, 2, false);
        int[] due = {1, 0, 2, 1, 102, 0, 0, 0, 0, 0, 0, 0, 0, 0, 0, 0};
        for (int k = 0; k < 16; k++) {
            CHECKS.same("at: byte of a rebuilt page", due[k], x.at(0, 2, false, k));
        }
        CHECKS.same("at: upper page", 108, x.at(0, 0, true, 4));
        CHECKS.fails("at: erased", NO_ELEMENT, () -> x.at(0, 1, true, 0));
        x.ruin(0, 0, true);
        CHECKS.fails("at: ruined", NO_ELEMENT, () -> x.at(0, 0, true, 0));
        CHECKS.fails("at: byte 16", INDEX, () -> x.at(0, 0, false, 16));
        CHECKS.fails("at: byte -1", INDEX, () -> x.at(0, 0, false, -1));
        CHECKS.fails("at: a wrong byte goes before the ruin", INDEX, () -> x.at(0, 0, true, 16));
        for (int b : WRONG_BLOCKS) {
            CHECKS.fails("at: block " + b, INDEX, () -> x.at(b, 0, false, 0));
        }
        for (int line : WRONG_LINES) {
            CHECKS.fails("at: line " + line, INDEX, () -> x.at(0, line, false, 0));
        }
        x.off();
        CHECKS.same("at: the power does not matter", 103, x.at(0, 3, false, 4));
    }

    private static void guard() {
        PairedCells x = Logs.filled(8);
        CHECKS.same("guard: erased", 0, x.guard(0));
        x.append(1, 1);
        x.cutAfter(1);
        x.sync();
        CHECKS.same("guard: ruined", 2, x.guard(0));
        x.start();
        CHECKS.same("guard: stays ruined", 2, x.guard(0));
        x.cutAfter(3);
        Logs.fill(x, 1);
        CHECKS.same("guard: written", 1, x.guard(0));
        CHECKS.same("guard: it counts as one programming", 1, x.told(3));
        x.cutAfter(0);
        Logs.fill(x, 7);
        Logs.fill(x, 1);
        CHECKS.same("guard: the next block has none yet", 0, x.guard(1));
        x.off();
        CHECKS.same("guard: the power does not matter", 1, x.guard(0));
        for (int b : WRONG_BLOCKS) {
            CHECKS.fails("guard: block " + b, INDEX, () -> x.guard(b));
        }
    }

    private static void guardWithoutRuinedPages() {
        PairedCells x = Logs.filled(8);
        x.ruin(0, 2, false);
        x.ruin(0, 5, false);
        Logs.fill(x, 1);
        CHECKS.same("guard: covers the written pages", 0xFF & ~(1 << 2 | 1 << 5), x.guarded(0, 16));
        CHECKS.same("guard: a page that it does not cover", 2, x.page(0, 2, false));
        x.ruin(0, 0, false);
        CHECKS.same("guard: one that it covers", 3, x.page(0, 0, false));
        CHECKS.same("guard: its event", 100, x.event(0));
        CHECKS.same("guard: the other one stays lost", PairedCells.NONE, x.length(2));
        x.ruin(0, 7, false);
        CHECKS.same("guard: two that it covers", 2, x.page(0, 0, false));
        PairedCells y = Logs.filled(8);
        for (int line = 0; line < 8; line++) {
            y.ruin(0, line, false);
        }
        Logs.fill(y, 1);
        for (int k = 0; k < 17; k++) {
            CHECKS.same("guard: of no page", 0, y.guarded(0, k));
        }
    }

    private static void guardOfBlockUsedAgain() {
        PairedCells x = Logs.filled(9);
        Logs.ruinBlock(x, 0);
        Logs.restart(x);
        Logs.fill(x, 8);
        x.ruin(0, 1, false);
        CHECKS.same("guard: an erased one rebuilds nothing", 2, x.page(0, 1, false));
        Logs.fill(x, 1);
        CHECKS.same("guard: it covers what is written now", 0xFF & ~(1 << 1), x.guarded(0, 16));
        x.ruin(0, 0, false);
        CHECKS.same("guard: and rebuilds that", 100, x.event(0));
        CHECKS.same("guard: but no other", 2, x.page(0, 1, false));
    }

    private static void guarded() {
        PairedCells x = new PairedCells();
        for (int k = 0; k < 8; k++) {
            x.append(6, 0x010101010101L << k);
            x.sync();
        }
        CHECKS.fails("guarded: erased", NO_ELEMENT, () -> x.guarded(0, 0));
        Logs.fill(x, 1);
        CHECKS.same("guarded: how many", 0, x.guarded(0, 0));
        CHECKS.same("guarded: numbers 0 to 7", 0, x.guarded(0, 2));
        for (int k = 4; k < 10; k++) {
            CHECKS.same("guarded: bytes", 255, x.guarded(0, k));
        }
        CHECKS.same("guarded: the rest", 0, x.guarded(0, 15));
        CHECKS.same("guarded: covers all", 255, x.guarded(0, 16));
        x.ruin(0, 0, false);
        CHECKS.same("guarded: stays as it is", 255, x.guarded(0, 4));
        CHECKS.fails("guarded: byte 17", INDEX, () -> x.guarded(0, 17));
        CHECKS.fails("guarded: byte -1", INDEX, () -> x.guarded(0, -1));
        CHECKS.fails("guarded: a wrong byte goes before an erased page", INDEX, () -> x.guarded(1, 17));
        for (int b : WRONG_BLOCKS) {
            CHECKS.fails("guarded: block " + b, INDEX, () -> x.guarded(b, 0));
        }
        x.off();
        CHECKS.same("guarded: the power does not matter", 255, x.guarded(0, 4));
        PairedCells y = Logs.filled(8);
        y.append(1, 1);
        y.cutAfter(1);
        y.sync();
        CHECKS.fails("guarded: ruined", NO_ELEMENT, () -> y.guarded(0, 0));
    }

    private static void told() {
        PairedCells x = Logs.filled(17);
        CHECKS.same("told: current", 1, x.told(0));
        CHECKS.same("told: power", 1, x.told(1));
        CHECKS.same("told: erased blocks", 4, x.told(2));
        x.cutAfter(7);
        CHECKS.same("told: cut", 7, x.told(3));
        x.trim(16);
        CHECKS.same("told: an erased block more", 5, x.told(2));
        CHECKS.same("told: erasures of block 0", 1, x.told(10));
        CHECKS.same("told: erasures of block 1", 0, x.told(11));
        CHECKS.same("told: erasures of block 5", 0, x.told(15));
        for (int what : new int[] {-1, 4, 9, 16, Integer.MIN_VALUE, Integer.MAX_VALUE}) {
            CHECKS.same("told: " + what, PairedCells.NONE, x.told(what));
        }
        x.off();
        CHECKS.same("told: power off", 0, x.told(1));
        CHECKS.same("told: current, power off", 1, x.told(0));
    }
}
