import java.util.Arrays;
import java.util.NoSuchElementException;

/**
 * A log of events on a chip in whose cells two pages lie together. The power may be cut while any
 * page is programmed; a guard page for each block lets one ruined lower page be rebuilt.
 */
public final class PairedCells {
    public static final int NONE = -1;
    public static final int CUT = -2;

    private static final int BLOCKS = 6;
    private static final int LINES = 8;
    private static final int PAGES = 2 * LINES;
    private static final int PAGE_BYTES = 16;
    private static final int COVER = PAGE_BYTES;
    private static final int GUARD_BYTES = PAGE_BYTES + 1;
    private static final int HEAD = 3;
    private static final int LONGEST = 6;
    private static final int LATEST_CUT = 60;

    private static final int ERASED = 0;
    private static final int WRITTEN = 1;
    private static final int RUINED = 2;
    private static final int REBUILT = 3;

    private static final int TOLD_CURRENT = 0;
    private static final int TOLD_POWER = 1;
    private static final int TOLD_ERASED = 2;
    private static final int TOLD_CUT = 3;
    private static final int TOLD_ERASURES = 10;

    private final Block[] blocks = new Block[BLOCKS];
    private final EventPage openPage = new EventPage();
    // One row for every look at a page of the chip, so that no call makes an object.
    private final EventPage shown = new EventPage();
    private int current = 0;
    private int firstEvent = 0;
    private int nextEvent = 0;
    private int cutIn = 0;
    private boolean powerOn = true;

    public PairedCells() {
        for (int b = 0; b < BLOCKS; b++) {
            blocks[b] = new Block();
        }
    }

    public int append(int n, long w)
            throws IllegalStateException, IllegalArgumentException, UnsupportedOperationException {
        requirePower();
        if (n < 1 || n > LONGEST) {
            throw new IllegalArgumentException("an event has 1 to 6 bytes");
        }
        if (!openPage.fits(n) && !flush()) {
            return CUT;
        }
        openPage.add(nextEvent, n, w);
        nextEvent++;
        return nextEvent - 1;
    }

    public int sync() throws IllegalStateException, UnsupportedOperationException {
        requirePower();
        if (!openPage.isEmpty() && !flush()) {
            return CUT;
        }
        return nextEvent;
    }

    public void cutAfter(int n) throws IllegalArgumentException {
        if (n < 0 || n > LATEST_CUT) {
            throw new IllegalArgumentException("a cut is set for 1 to 60, or 0 for none");
        }
        cutIn = n;
    }

    public int off() throws IllegalStateException {
        requirePower();
        powerOn = false;
        return openPage.events();
    }

    public int start() throws IllegalStateException {
        if (powerOn) {
            throw new IllegalStateException("the power is on");
        }
        openPage.clear();
        eraseUnreadableBlocks();
        findEvents();
        powerOn = true;
        return nextEvent;
    }

    public int trim(int n) throws IllegalStateException, IllegalArgumentException {
        requirePower();
        if (n < firstEvent || n > nextEvent) {
            throw new IllegalArgumentException("not from first() to count()");
        }
        firstEvent = n;
        int erased = 0;
        for (int b = 0; b < BLOCKS; b++) {
            if (b != current && !blocks[b].isErased() && greatestEvent(blocks[b]) < n) {
                blocks[b].erase();
                erased++;
            }
        }
        return erased;
    }

    public int first() throws IllegalStateException {
        requirePower();
        return firstEvent;
    }

    public int count() throws IllegalStateException {
        requirePower();
        return nextEvent;
    }

    public int length(int i) throws IllegalStateException, IndexOutOfBoundsException {
        requirePower();
        requireEvent(i);
        EventPage holder = pageWith(i);
        return holder == null ? NONE : holder.lengthOf(i);
    }

    public long event(int i)
            throws IllegalStateException, IndexOutOfBoundsException, NoSuchElementException {
        requirePower();
        requireEvent(i);
        EventPage holder = pageWith(i);
        if (holder == null) {
            throw new NoSuchElementException("the event is lost");
        }
        return holder.bytesOf(i);
    }

    public boolean ruin(int block, int line, boolean upper) throws IndexOutOfBoundsException {
        requireLine(block, line);
        return blocks[block].ruinWritten(placeOf(line, upper));
    }

    public int page(int block, int line, boolean upper) throws IndexOutOfBoundsException {
        requireLine(block, line);
        return blocks[block].stateAt(placeOf(line, upper));
    }

    public int at(int block, int line, boolean upper, int k)
            throws IndexOutOfBoundsException, NoSuchElementException {
        requireLine(block, line);
        if (k < 0 || k >= PAGE_BYTES) {
            throw new IndexOutOfBoundsException("no such byte");
        }
        int place = placeOf(line, upper);
        if (!blocks[block].isReadable(place)) {
            throw new NoSuchElementException("the page is not readable");
        }
        return blocks[block].byteAt(place, k);
    }

    public int guard(int block) throws IndexOutOfBoundsException {
        requireBlock(block);
        return blocks[block].guardState;
    }

    public int guarded(int block, int k) throws IndexOutOfBoundsException, NoSuchElementException {
        requireBlock(block);
        if (k < 0 || k >= GUARD_BYTES) {
            throw new IndexOutOfBoundsException("no such byte");
        }
        if (blocks[block].guardState != WRITTEN) {
            throw new NoSuchElementException("the guard page is not written");
        }
        return blocks[block].guardBytes[k];
    }

    public int told(int what) {
        if (what >= TOLD_ERASURES && what < TOLD_ERASURES + BLOCKS) {
            return blocks[what - TOLD_ERASURES].erasures;
        }
        switch (what) {
            case TOLD_CURRENT:
                return current;
            case TOLD_POWER:
                return powerOn ? 1 : 0;
            case TOLD_ERASED:
                return erasedBlocks();
            case TOLD_CUT:
                return cutIn;
            default:
                return NONE;
        }
    }

    private void requirePower() {
        if (!powerOn) {
            throw new IllegalStateException("the power is off");
        }
    }

    private void requireEvent(int i) {
        if (i < firstEvent || i >= nextEvent) {
            throw new IndexOutOfBoundsException("no such event");
        }
    }

    private static void requireBlock(int block) {
        if (block < 0 || block >= BLOCKS) {
            throw new IndexOutOfBoundsException("no such block");
        }
    }

    private static void requireLine(int block, int line) {
        requireBlock(block);
        if (line < 0 || line >= LINES) {
            throw new IndexOutOfBoundsException("no such line");
        }
    }

    /** A page's place in the order of its block. */
    private static int placeOf(int line, boolean upper) {
        return upper ? LINES + line : line;
    }

    /** Programs the open page; false when the power was cut at that. */
    private boolean flush() {
        current = blockToProgram();
        Block block = blocks[current];
        int place = block.nextPlace();
        // The upper pages put the lower ones at risk: their guard stands before the first of them.
        if (place == LINES && !programGuard(block)) {
            return false;
        }
        if (cutIsDue()) {
            block.cutAt(place);
            return false;
        }
        block.write(place, openPage);
        openPage.clear();
        return true;
    }

    private int blockToProgram() {
        if (blocks[current].takesMore()) {
            return current;
        }
        int following = (current + 1) % BLOCKS;
        if (!blocks[following].isErased()) {
            throw new UnsupportedOperationException("the log is full");
        }
        return following;
    }

    private boolean programGuard(Block block) {
        if (cutIsDue()) {
            block.guardState = RUINED;
            return false;
        }
        block.writeGuard();
        return true;
    }

    /** Counts a programming; if the cut is set for this one, the power goes off. */
    private boolean cutIsDue() {
        if (cutIn == 0) {
            return false;
        }
        cutIn--;
        if (cutIn > 0) {
            return false;
        }
        powerOn = false;
        return true;
    }

    private void eraseUnreadableBlocks() {
        for (int b = 0; b < BLOCKS; b++) {
            if (!blocks[b].isErased() && greatestEvent(blocks[b]) == NONE) {
                blocks[b].erase();
            }
        }
    }

    private void findEvents() {
        int least = NONE;
        int greatest = NONE;
        current = 0;
        for (int b = 0; b < BLOCKS; b++) {
            int from = leastEvent(blocks[b]);
            int to = greatestEvent(blocks[b]);
            if (from != NONE && (least == NONE || from < least)) {
                least = from;
            }
            if (to > greatest) {
                greatest = to;
                current = b;
            }
        }
        firstEvent = least == NONE ? 0 : least;
        nextEvent = greatest + 1;
    }

    /** The least event in the readable pages of a block, or NONE. */
    private int leastEvent(Block block) {
        int least = NONE;
        for (int place = 0; place < PAGES; place++) {
            if (block.show(place, shown) && (least == NONE || shown.firstNumber() < least)) {
                least = shown.firstNumber();
            }
        }
        return least;
    }

    /** The greatest event in the readable pages of a block, or NONE. */
    private int greatestEvent(Block block) {
        int greatest = NONE;
        for (int place = 0; place < PAGES; place++) {
            if (block.show(place, shown)) {
                greatest = Math.max(greatest, shown.lastNumber());
            }
        }
        return greatest;
    }

    /** The open page or a readable one with event i; null when the event is lost. */
    private EventPage pageWith(int i) {
        if (openPage.holds(i)) {
            return openPage;
        }
        for (int b = 0; b < BLOCKS; b++) {
            for (int place = 0; place < PAGES; place++) {
                if (blocks[b].show(place, shown) && shown.holds(i)) {
                    return shown;
                }
            }
        }
        return null;
    }

    private int erasedBlocks() {
        int erased = 0;
        for (int b = 0; b < BLOCKS; b++) {
            if (blocks[b].isErased()) {
                erased++;
            }
        }
        return erased;
    }

    /** A page of the log: its events' count, the first one's number, then lengths and bytes. */
    private static final class EventPage {
        private final int[] bytes = new int[PAGE_BYTES];

        void clear() {
            Arrays.fill(bytes, 0);
        }

        int events() {
            return bytes[0];
        }

        boolean isEmpty() {
            return events() == 0;
        }

        int firstNumber() {
            return bytes[1] << 8 | bytes[2];
        }

        int lastNumber() {
            return firstNumber() + events() - 1;
        }

        boolean holds(int i) {
            return !isEmpty() && i >= firstNumber() && i <= lastNumber();
        }

        boolean fits(int n) {
            return placeOfRow(events()) + 1 + n <= PAGE_BYTES;
        }

        void add(int number, int n, long w) {
            int place = placeOfRow(events());
            if (isEmpty()) {
                bytes[1] = number >> 8 & 0xFF;
                bytes[2] = number & 0xFF;
            }
            bytes[0]++;
            bytes[place] = n;
            for (int k = 0; k < n; k++) {
                bytes[place + 1 + k] = (int) (w >> 8 * k & 0xFF);
            }
        }

        int lengthOf(int i) {
            return bytes[placeOfRow(i - firstNumber())];
        }

        long bytesOf(int i) {
            int place = placeOfRow(i - firstNumber());
            long w = 0;
            for (int k = bytes[place]; k > 0; k--) {
                w = w << 8 | bytes[place + k];
            }
            return w;
        }

        /** Where the row of the event at that index begins, or the next one would. */
        private int placeOfRow(int index) {
            int place = HEAD;
            for (int k = 0; k < index; k++) {
                place += 1 + bytes[place];
            }
            return place;
        }
    }

    /** A block: its pages, each at its place in the order, and its guard page. */
    private static final class Block {
        private final int[] states = new int[PAGES];
        private final int[] bytes = new int[PAGES * PAGE_BYTES];
        private final int[] guardBytes = new int[GUARD_BYTES];
        private int guardState = ERASED;
        private int erasures = 0;

        /** The place of the page that is programmed next; PAGES when none is left. */
        int nextPlace() {
            int place = 0;
            while (place < PAGES && states[place] != ERASED) {
                place++;
            }
            return place;
        }

        boolean isErased() {
            return nextPlace() == 0;
        }

        boolean takesMore() {
            for (int place = LINES; place < PAGES; place++) {
                if (states[place] == RUINED) {
                    return false;
                }
            }
            return nextPlace() < PAGES;
        }

        void erase() {
            Arrays.fill(states, ERASED);
            guardState = ERASED;
            erasures++;
        }

        void write(int place, EventPage row) {
            states[place] = WRITTEN;
            System.arraycopy(row.bytes, 0, bytes, place * PAGE_BYTES, PAGE_BYTES);
        }

        /** The power is cut while that page is programmed. */
        void cutAt(int place) {
            states[place] = RUINED;
            if (place >= LINES) {
                states[place - LINES] = RUINED;
            }
        }

        boolean ruinWritten(int place) {
            if (states[place] != WRITTEN) {
                return false;
            }
            states[place] = RUINED;
            return true;
        }

        /** Makes the guard page anew; a ruined one is erased by that. */
        void writeGuard() {
            Arrays.fill(guardBytes, 0);
            for (int line = 0; line < LINES; line++) {
                if (states[line] == WRITTEN) {
                    guardBytes[COVER] |= 1 << line;
                    for (int k = 0; k < PAGE_BYTES; k++) {
                        guardBytes[k] ^= bytes[line * PAGE_BYTES + k];
                    }
                }
            }
            guardState = WRITTEN;
        }

        int stateAt(int place) {
            return isRebuilt(place) ? REBUILT : states[place];
        }

        boolean isReadable(int place) {
            return states[place] == WRITTEN || isRebuilt(place);
        }

        private boolean isRebuilt(int place) {
            if (states[place] != RUINED || !covers(place)) {
                return false;
            }
            for (int line = 0; line < LINES; line++) {
                if (line != place && covers(line) && states[line] != WRITTEN) {
                    return false;
                }
            }
            return true;
        }

        private boolean covers(int place) {
            return guardState == WRITTEN && place < LINES && (guardBytes[COVER] >> place & 1) == 1;
        }

        /** Byte k of a readable page. */
        int byteAt(int place, int k) {
            if (states[place] == WRITTEN) {
                return bytes[place * PAGE_BYTES + k];
            }
            int sum = guardBytes[k];
            for (int line = 0; line < LINES; line++) {
                if (line != place && covers(line)) {
                    sum ^= bytes[line * PAGE_BYTES + k];
                }
            }
            return sum;
        }

        /** Puts a page's bytes into the row; false when the page is not readable. */
        boolean show(int place, EventPage row) {
            if (!isReadable(place)) {
                return false;
            }
            for (int k = 0; k < PAGE_BYTES; k++) {
                row.bytes[k] = byteAt(place, k);
            }
            return true;
        }
    }
}
