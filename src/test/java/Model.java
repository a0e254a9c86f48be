import java.util.ArrayList;
import java.util.List;
import java.util.NoSuchElementException;
import java.util.stream.IntStream;

/**
 * The document told a second time, in another way: a page is a list of events, and a ruined page
 * keeps them, so that what the program rebuilds from sums can be held against what was written.
 */
final class Model {
    private enum State { ERASED, WRITTEN, RUINED }

    private record Event(int number, int n, long w) { }

    private static final class Page {
        State state = State.ERASED;
        List<Event> events = List.of();

        int[] bytes() {
            int[] row = new int[16];
            row[0] = events.size();
            row[1] = events.get(0).number() / 256 % 256;
            row[2] = events.get(0).number() % 256;
            int next = 3;
            for (Event e : events) {
                row[next++] = e.n();
                for (int k = 0; k < e.n(); k++) {
                    row[next++] = (int) (e.w() >>> 8 * k) & 255;
                }
            }
            return row;
        }
    }

    private static final class Block {
        final Page[] lower = pages();
        final Page[] upper = pages();
        State guard = State.ERASED;
        final int[] guardBytes = new int[17];
        int erasures = 0;

        static Page[] pages() {
            return IntStream.range(0, 8).mapToObj(k -> new Page()).toArray(Page[]::new);
        }

        Page page(int place) {
            return place < 8 ? lower[place] : upper[place - 8];
        }

        boolean erased() {
            return IntStream.range(0, 16).allMatch(k -> page(k).state == State.ERASED);
        }

        int left() {
            return IntStream.range(0, 16).filter(k -> page(k).state == State.ERASED).findFirst().orElse(-1);
        }

        boolean takesMore() {
            return left() >= 0 && IntStream.range(8, 16).noneMatch(k -> page(k).state == State.RUINED);
        }

        boolean covered(int line) {
            return guard == State.WRITTEN && (guardBytes[16] & 1 << line) != 0;
        }

        boolean rebuilt(int place) {
            return place < 8 && page(place).state == State.RUINED && covered(place)
                    && IntStream.range(0, 8).filter(k -> k != place && covered(k))
                            .allMatch(k -> lower[k].state == State.WRITTEN);
        }

        boolean readable(int place) {
            return page(place).state == State.WRITTEN || rebuilt(place);
        }

        List<Event> events() {
            List<Event> all = new ArrayList<>();
            IntStream.range(0, 16).filter(this::readable).forEach(k -> all.addAll(page(k).events));
            return all;
        }

        void erase() {
            for (int k = 0; k < 16; k++) {
                page(k).state = State.ERASED;
                page(k).events = List.of();
            }
            guard = State.ERASED;
            erasures++;
        }

        void writeGuard() {
            guard = State.WRITTEN;
            java.util.Arrays.fill(guardBytes, 0);
            for (int line = 0; line < 8; line++) {
                if (lower[line].state == State.WRITTEN) {
                    guardBytes[16] += 1 << line;
                    int[] row = lower[line].bytes();
                    for (int k = 0; k < 16; k++) {
                        guardBytes[k] ^= row[k];
                    }
                }
            }
        }
    }

    private final List<Block> blocks = IntStream.range(0, 6).mapToObj(k -> new Block()).toList();
    private List<Event> open = new ArrayList<>();
    private int current = 0;
    private int first = 0;
    private int count = 0;
    private int cut = 0;
    private boolean on = true;

    int append(int n, long w) {
        needOn();
        if (n < 1 || n > 6) {
            throw new IllegalArgumentException();
        }
        int used = 3 + open.stream().mapToInt(e -> 1 + e.n()).sum();
        if (used + 1 + n > 16) {
            flush();
        }
        if (!on) {
            return -2;
        }
        open.add(new Event(count, n, w & (1L << 8 * n) - 1));
        return count++;
    }

    int sync() {
        needOn();
        if (!open.isEmpty()) {
            flush();
        }
        return on ? count : -2;
    }

    void cutAfter(int n) {
        if (n < 0 || n > 60) {
            throw new IllegalArgumentException();
        }
        cut = n;
    }

    int off() {
        needOn();
        on = false;
        return open.size();
    }

    int start() {
        if (on) {
            throw new IllegalStateException();
        }
        on = true;
        open = new ArrayList<>();
        blocks.stream().filter(b -> !b.erased() && b.events().isEmpty()).forEach(Block::erase);
        List<Event> all = onChip();
        first = all.stream().mapToInt(Event::number).min().orElse(0);
        count = all.stream().mapToInt(Event::number).max().orElse(-1) + 1;
        current = IntStream.range(0, 6)
                .filter(b -> blocks.get(b).events().stream().anyMatch(e -> e.number() == count - 1))
                .findFirst().orElse(0);
        return count;
    }

    int trim(int n) {
        needOn();
        if (n < first || n > count) {
            throw new IllegalArgumentException();
        }
        first = n;
        List<Block> old = blocks.stream().filter(b -> b != blocks.get(current) && !b.erased())
                .filter(b -> b.events().stream().noneMatch(e -> e.number() >= n)).toList();
        old.forEach(Block::erase);
        return old.size();
    }

    int first() {
        needOn();
        return first;
    }

    int count() {
        needOn();
        return count;
    }

    int length(int i) {
        Event e = find(i);
        return e == null ? -1 : e.n();
    }

    long event(int i) {
        Event e = find(i);
        if (e == null) {
            throw new NoSuchElementException();
        }
        return e.w();
    }

    boolean ruin(int block, int line, boolean upper) {
        Page page = pageOf(block, line, upper);
        boolean written = page.state == State.WRITTEN;
        if (written) {
            page.state = State.RUINED;
        }
        return written;
    }

    int page(int block, int line, boolean upper) {
        Page page = pageOf(block, line, upper);
        return blocks.get(block).rebuilt(upper ? line + 8 : line) ? 3 : page.state.ordinal();
    }

    int at(int block, int line, boolean upper, int k) {
        Page page = pageOf(block, line, upper);
        if (k < 0 || k > 15) {
            throw new IndexOutOfBoundsException();
        }
        if (!blocks.get(block).readable(upper ? line + 8 : line)) {
            throw new NoSuchElementException();
        }
        return page.bytes()[k];
    }

    int guard(int block) {
        return blockOf(block).guard.ordinal();
    }

    int guarded(int block, int k) {
        Block b = blockOf(block);
        if (k < 0 || k > 16) {
            throw new IndexOutOfBoundsException();
        }
        if (b.guard != State.WRITTEN) {
            throw new NoSuchElementException();
        }
        return b.guardBytes[k];
    }

    int told(int what) {
        return switch (what) {
            case 0 -> current;
            case 1 -> on ? 1 : 0;
            case 2 -> (int) blocks.stream().filter(Block::erased).count();
            case 3 -> cut;
            case 10, 11, 12, 13, 14, 15 -> blocks.get(what - 10).erasures;
            default -> -1;
        };
    }

    private void flush() {
        int to = blocks.get(current).takesMore() ? current : (current + 1) % 6;
        if (to != current && !blocks.get(to).erased()) {
            throw new UnsupportedOperationException();
        }
        current = to;
        Block b = blocks.get(to);
        int place = b.left();
        if (place == 8) {
            if (cutNow()) {
                b.guard = State.RUINED;
                return;
            }
            b.writeGuard();
        }
        if (cutNow()) {
            b.page(place).state = State.RUINED;
            b.lower[place % 8].state = State.RUINED;
            return;
        }
        b.page(place).state = State.WRITTEN;
        b.page(place).events = open;
        open = new ArrayList<>();
    }

    private boolean cutNow() {
        boolean now = cut == 1;
        cut = Math.max(0, cut - 1);
        on = !now;
        return now;
    }

    private List<Event> onChip() {
        List<Event> all = new ArrayList<>();
        blocks.forEach(b -> all.addAll(b.events()));
        return all;
    }

    private Event find(int i) {
        needOn();
        if (i < first || i >= count) {
            throw new IndexOutOfBoundsException();
        }
        List<Event> all = onChip();
        all.addAll(open);
        return all.stream().filter(e -> e.number() == i).findFirst().orElse(null);
    }

    private Block blockOf(int block) {
        if (block < 0 || block > 5) {
            throw new IndexOutOfBoundsException();
        }
        return blocks.get(block);
    }

    private Page pageOf(int block, int line, boolean upper) {
        Block b = blockOf(block);
        if (line < 0 || line > 7) {
            throw new IndexOutOfBoundsException();
        }
        return upper ? b.upper[line] : b.lower[line];
    }

    private void needOn() {
        if (!on) {
            throw new IllegalStateException();
        }
    }
}
