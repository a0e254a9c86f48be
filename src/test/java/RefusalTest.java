import java.util.List;
import java.util.NoSuchElementException;
import java.util.function.Consumer;
import java.util.function.Supplier;

/**
 * What the document says is refused: the exception, which of several goes first, that nothing is
 * changed by it, and that the call just inside the boundary is taken.
 */
public final class RefusalTest {
    private static final Checks CHECKS = new Checks();
    private static final Class<IllegalStateException> STATE = IllegalStateException.class;
    private static final Class<IllegalArgumentException> ARGUMENT = IllegalArgumentException.class;
    private static final Class<IndexOutOfBoundsException> INDEX = IndexOutOfBoundsException.class;
    private static final Class<UnsupportedOperationException> FULL = UnsupportedOperationException.class;
    private static final Class<NoSuchElementException> NO_ELEMENT = NoSuchElementException.class;

    private static final int MIN = Integer.MIN_VALUE;
    private static final int MAX = Integer.MAX_VALUE;
    private static final int[] NO_BLOCK = {MIN, -1, 6, MAX};
    private static final int[] NO_LINE = {MIN, -1, 8, MAX};
    private static final int[] NO_BYTE = {MIN, -1, 16, MAX};
    private static final int[] NO_GUARD_BYTE = {MIN, -1, 17, MAX};

    private static final Situation NEW = new Situation("new", PairedCells::new, 0, 0);
    private static final Situation USED = new Situation("used", RefusalTest::used, 4, 28);
    private static final Situation LOG_FULL = new Situation("full", RefusalTest::full, 0, 98);
    private static final Situation TURNED_OFF = new Situation("turned off", RefusalTest::turnedOff, 4, 28);
    private static final Situation CUT_OFF = new Situation("cut off", RefusalTest::cutOff, 0, 8);
    private static final Situation[] ON = {NEW, USED, LOG_FULL};
    private static final Situation[] OFF = {TURNED_OFF, CUT_OFF};
    private static final Situation[] ALL = {NEW, USED, LOG_FULL, TURNED_OFF, CUT_OFF};

    private static final int LOST = 10;

    /** A state that a log can be in, with what first() and count() are there. */
    private static final class Situation {
        final String name;
        final Supplier<PairedCells> state;
        final int first;
        final int count;
        final List<String> looks;

        Situation(String name, Supplier<PairedCells> state, int first, int count) {
            this.name = name;
            this.state = state;
            this.first = first;
            this.count = count;
            looks = Looks.at(state);
        }
    }

    public static void main(String[] args) {
        appendTakesOneToSixBytes();
        appendIsRefusedByAFullLog();
        appendNamesThePowerFirst();
        appendNamesTheLengthBeforeTheFullLog();
        syncIsRefusedByAFullLog();
        syncNamesThePowerFirst();
        cutAfterTakesNoneToSixty();
        offNeedsThePowerOn();
        startNeedsThePowerOff();
        trimTakesFirstToCount();
        trimNamesThePowerFirst();
        firstAndCountNeedThePowerOn();
        lengthAndEventTakeFirstToCount();
        lengthAndEventNameThePowerFirst();
        eventIsRefusedWhenLost();
        eventNamesTheNumberBeforeTheLoss();
        pagesAreThoseOfSixBlocksOfEightLines();
        bytesOfAPageAreSixteen();
        bytesNeedAReadablePage();
        atNamesThePlaceBeforeTheUnreadablePage();
        guardsAreThoseOfSixBlocks();
        bytesOfAGuardPageAreSeventeen();
        guardedNeedsAWrittenPage();
        guardedNamesTheByteBeforeTheUnwrittenPage();
        CHECKS.finish();
    }

    /** Trimmed, with ruined pages, a lost event, events in the open page and a cut that is set. */
    private static PairedCells used() {
        PairedCells x = Logs.filled(26);
        x.ruin(0, 3, false);
        x.ruin(0, 2, true);
        x.ruin(1, 5, false);
        x.append(2, 0x1234);
        x.append(3, 0x56789A);
        x.cutAfter(7);
        x.trim(4);
        return x;
    }

    /** Full, and its open page takes no event more. */
    private static PairedCells full() {
        PairedCells x = Logs.filled(96);
        x.append(6, 1);
        x.append(5, 2);
        x.cutAfter(1);
        return x;
    }

    private static PairedCells turnedOff() {
        PairedCells x = used();
        x.off();
        return x;
    }

    /** Cut off at a guard page, and a new cut set since. */
    private static PairedCells cutOff() {
        PairedCells x = Logs.filled(8);
        x.append(1, 9);
        x.cutAfter(1);
        x.sync();
        x.cutAfter(5);
        return x;
    }

    private static void refused(String what, Class<? extends RuntimeException> due, Situation s,
            Consumer<PairedCells> call) {
        CHECKS.fails(s.name + ": " + what, due, () -> call.accept(s.state.get()));
        List<String> after = Looks.at(() -> {
            PairedCells x = s.state.get();
            try {
                call.accept(x);
            } catch (RuntimeException e) {
                // that it came was looked at above
            }
            return x;
        });
        CHECKS.same(s.name + ": " + what + " changed", "none", Looks.difference(s.looks, after));
    }

    private static void taken(String what, Situation s, Consumer<PairedCells> call) {
        try {
            call.accept(s.state.get());
            CHECKS.same(what, true, true);
        } catch (RuntimeException e) {
            CHECKS.same(s.name + ": " + what, "taken", e.toString());
        }
    }

    private static void appendTakesOneToSixBytes() {
        for (Situation s : ON) {
            for (int n : new int[] {MIN, -1, 0, 7, 8, MAX}) {
                refused("append of " + n, ARGUMENT, s, x -> x.append(n, 1));
            }
        }
        for (int n = 1; n <= 6; n++) {
            int length = n;
            taken("append of " + n, NEW, x -> x.append(length, 1));
            taken("append of " + n, USED, x -> x.append(length, 1));
        }
    }

    private static void appendIsRefusedByAFullLog() {
        for (int n = 1; n <= 6; n++) {
            int length = n;
            refused("append of " + n, FULL, LOG_FULL, x -> x.append(length, 1));
        }
        Situation room = new Situation("room for one byte", () -> {
            PairedCells x = Logs.filled(96);
            x.append(6, 1);
            x.append(3, 2);
            return x;
        }, 0, 98);
        taken("append of 1", room, x -> x.append(1, 3));
        refused("append of 2", FULL, room, x -> x.append(2, 3));
    }

    private static void appendNamesThePowerFirst() {
        for (Situation s : OFF) {
            for (int n : new int[] {-1, 0, 1, 6, 7}) {
                refused("append of " + n, STATE, s, x -> x.append(n, 1));
            }
        }
        refused("append, power off", STATE, fullAndOff(), x -> x.append(7, 1));
    }

    private static Situation fullAndOff() {
        return new Situation("full and off", () -> {
            PairedCells x = full();
            x.off();
            return x;
        }, 0, 98);
    }

    private static void appendNamesTheLengthBeforeTheFullLog() {
        refused("append of 0", ARGUMENT, LOG_FULL, x -> x.append(0, 1));
        refused("append of 7", ARGUMENT, LOG_FULL, x -> x.append(7, 1));
    }

    private static void syncIsRefusedByAFullLog() {
        refused("sync", FULL, LOG_FULL, PairedCells::sync);
        Situation nothingOpen = new Situation("full, nothing open", () -> Logs.filled(96), 0, 96);
        taken("sync", nothingOpen, PairedCells::sync);
        Situation lastPage = new Situation("one page left", () -> {
            PairedCells x = Logs.filled(95);
            x.append(1, 1);
            return x;
        }, 0, 96);
        taken("sync", lastPage, PairedCells::sync);
    }

    private static void syncNamesThePowerFirst() {
        for (Situation s : OFF) {
            refused("sync", STATE, s, PairedCells::sync);
        }
        refused("sync", STATE, fullAndOff(), PairedCells::sync);
        taken("sync", NEW, PairedCells::sync);
        taken("sync", USED, PairedCells::sync);
    }

    private static void cutAfterTakesNoneToSixty() {
        for (Situation s : ALL) {
            for (int n : new int[] {MIN, -1, 61, MAX}) {
                refused("cutAfter " + n, ARGUMENT, s, x -> x.cutAfter(n));
            }
            taken("cutAfter 0", s, x -> x.cutAfter(0));
            taken("cutAfter 1", s, x -> x.cutAfter(1));
            taken("cutAfter 60", s, x -> x.cutAfter(60));
        }
    }

    private static void offNeedsThePowerOn() {
        for (Situation s : OFF) {
            refused("off", STATE, s, PairedCells::off);
        }
        for (Situation s : ON) {
            taken("off", s, PairedCells::off);
        }
    }

    private static void startNeedsThePowerOff() {
        for (Situation s : ON) {
            refused("start", STATE, s, PairedCells::start);
        }
        for (Situation s : OFF) {
            taken("start", s, PairedCells::start);
        }
    }

    private static void trimTakesFirstToCount() {
        for (Situation s : ON) {
            for (int n : new int[] {MIN, s.first - 1, s.count + 1, MAX}) {
                refused("trim " + n, ARGUMENT, s, x -> x.trim(n));
            }
            taken("trim to first()", s, x -> x.trim(s.first));
            taken("trim to count()", s, x -> x.trim(s.count));
        }
    }

    private static void trimNamesThePowerFirst() {
        for (Situation s : OFF) {
            for (int n : new int[] {-1, s.first, s.count, MAX}) {
                refused("trim " + n, STATE, s, x -> x.trim(n));
            }
        }
    }

    private static void firstAndCountNeedThePowerOn() {
        for (Situation s : OFF) {
            refused("first", STATE, s, PairedCells::first);
            refused("count", STATE, s, PairedCells::count);
        }
        for (Situation s : ON) {
            CHECKS.same(s.name + ": first", s.first, s.state.get().first());
            CHECKS.same(s.name + ": count", s.count, s.state.get().count());
        }
    }

    private static void lengthAndEventTakeFirstToCount() {
        for (Situation s : ON) {
            for (int i : new int[] {MIN, s.first - 1, s.count, s.count + 1, MAX}) {
                refused("length " + i, INDEX, s, x -> x.length(i));
                refused("event " + i, INDEX, s, x -> x.event(i));
            }
        }
        for (Situation s : new Situation[] {USED, LOG_FULL}) {
            for (int i : new int[] {s.first, s.count - 1}) {
                taken("length " + i, s, x -> x.length(i));
                taken("event " + i, s, x -> x.event(i));
            }
        }
    }

    private static void lengthAndEventNameThePowerFirst() {
        for (Situation s : OFF) {
            for (int i : new int[] {-1, s.first, LOST, s.count, MAX}) {
                refused("length " + i, STATE, s, x -> x.length(i));
                refused("event " + i, STATE, s, x -> x.event(i));
            }
        }
    }

    private static void eventIsRefusedWhenLost() {
        refused("event lost", NO_ELEMENT, USED, x -> x.event(LOST));
        taken("event before it", USED, x -> x.event(LOST - 1));
        taken("event behind it", USED, x -> x.event(LOST + 1));
        CHECKS.same("length of a lost one", PairedCells.NONE, used().length(LOST));
    }

    private static void eventNamesTheNumberBeforeTheLoss() {
        Situation gone = new Situation("lost and trimmed", () -> {
            PairedCells x = used();
            x.trim(LOST + 1);
            return x;
        }, LOST + 1, 28);
        refused("event", INDEX, gone, x -> x.event(LOST));
        refused("length", INDEX, gone, x -> x.length(LOST));
    }

    private static void pagesAreThoseOfSixBlocksOfEightLines() {
        for (Situation s : ALL) {
            for (int block : NO_BLOCK) {
                noSuchPage(s, block, 0);
            }
            for (int line : NO_LINE) {
                noSuchPage(s, 0, line);
            }
            noSuchPage(s, 6, 8);
            for (int block = 0; block < 6; block++) {
                for (int line = 0; line < 8; line++) {
                    pageIsThere(s, block, line);
                }
            }
        }
    }

    private static void noSuchPage(Situation s, int block, int line) {
        String where = " of block " + block + ", line " + line;
        for (boolean upper : new boolean[] {false, true}) {
            refused("ruin" + where, INDEX, s, x -> x.ruin(block, line, upper));
            refused("page" + where, INDEX, s, x -> x.page(block, line, upper));
            refused("at" + where, INDEX, s, x -> x.at(block, line, upper, 0));
        }
    }

    private static void pageIsThere(Situation s, int block, int line) {
        for (boolean upper : new boolean[] {false, true}) {
            taken("ruin", s, x -> x.ruin(block, line, upper));
            taken("page", s, x -> x.page(block, line, upper));
        }
    }

    private static void bytesOfAPageAreSixteen() {
        for (Situation s : new Situation[] {USED, LOG_FULL, TURNED_OFF, CUT_OFF}) {
            for (int k : NO_BYTE) {
                refused("at byte " + k, INDEX, s, x -> x.at(0, 0, false, k));
            }
            taken("at byte 0", s, x -> x.at(0, 0, false, 0));
            taken("at byte 15", s, x -> x.at(0, 0, false, 15));
        }
        refused("at byte 16 of the last page", INDEX, LOG_FULL, x -> x.at(5, 7, true, 16));
        taken("at byte 15 of the last page", LOG_FULL, x -> x.at(5, 7, true, 15));
    }

    private static void bytesNeedAReadablePage() {
        for (Situation s : new Situation[] {USED, TURNED_OFF}) {
            refused("at of a ruined page", NO_ELEMENT, s, x -> x.at(0, 2, true, 0));
            refused("at of an erased page", NO_ELEMENT, s, x -> x.at(1, 2, true, 15));
            taken("at of a rebuilt page", s, x -> x.at(0, 3, false, 0));
            taken("at of a written page", s, x -> x.at(1, 1, true, 15));
        }
        Situation noGuard = new Situation("ruined without a guard", () -> {
            PairedCells x = Logs.filled(8);
            x.ruin(0, 0, false);
            return x;
        }, 0, 8);
        refused("at of a page that is not rebuilt", NO_ELEMENT, noGuard, x -> x.at(0, 0, false, 0));
    }

    private static void atNamesThePlaceBeforeTheUnreadablePage() {
        for (Situation s : new Situation[] {USED, TURNED_OFF}) {
            for (int k : NO_BYTE) {
                refused("at byte of a ruined page", INDEX, s, x -> x.at(0, 2, true, k));
                refused("at byte of an erased page", INDEX, s, x -> x.at(5, 7, true, k));
            }
        }
    }

    private static void guardsAreThoseOfSixBlocks() {
        for (Situation s : ALL) {
            for (int block : NO_BLOCK) {
                refused("guard of block " + block, INDEX, s, x -> x.guard(block));
                refused("guarded of block " + block, INDEX, s, x -> x.guarded(block, 0));
            }
            for (int block = 0; block < 6; block++) {
                int there = block;
                taken("guard of block " + block, s, x -> x.guard(there));
            }
        }
    }

    private static void bytesOfAGuardPageAreSeventeen() {
        for (Situation s : new Situation[] {USED, LOG_FULL, TURNED_OFF}) {
            for (int k : NO_GUARD_BYTE) {
                refused("guarded byte " + k, INDEX, s, x -> x.guarded(0, k));
            }
            taken("guarded byte 0", s, x -> x.guarded(0, 0));
            taken("guarded byte 16", s, x -> x.guarded(0, 16));
        }
        refused("guarded byte 17 of the last block", INDEX, LOG_FULL, x -> x.guarded(5, 17));
        taken("guarded byte 16 of the last block", LOG_FULL, x -> x.guarded(5, 16));
    }

    private static void guardedNeedsAWrittenPage() {
        refused("guarded of an erased page", NO_ELEMENT, NEW, x -> x.guarded(0, 0));
        refused("guarded of an erased page", NO_ELEMENT, USED, x -> x.guarded(2, 16));
        refused("guarded of a ruined page", NO_ELEMENT, CUT_OFF, x -> x.guarded(0, 0));
        refused("guarded of a ruined page", NO_ELEMENT, CUT_OFF, x -> x.guarded(0, 16));
        taken("guarded of a written page", USED, x -> x.guarded(1, 16));
        Situation erased = new Situation("erased again", () -> {
            PairedCells x = Logs.filled(17);
            x.trim(16);
            return x;
        }, 16, 17);
        refused("guarded of a page erased with its block", NO_ELEMENT, erased, x -> x.guarded(0, 0));
    }

    private static void guardedNamesTheByteBeforeTheUnwrittenPage() {
        for (int k : NO_GUARD_BYTE) {
            refused("guarded byte of an erased page", INDEX, NEW, x -> x.guarded(5, k));
            refused("guarded byte of a ruined page", INDEX, CUT_OFF, x -> x.guarded(0, k));
        }
    }
}
