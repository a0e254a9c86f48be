import java.util.ArrayList;
import java.util.List;
import java.util.function.Supplier;
import java.util.function.ToLongFunction;

/**
 * All that a log shows, and what some calls then answer: two logs with the same looks are the same
 * to a caller. An object is good for 512 calls only, so that the state is made anew every few looks.
 */
final class Looks {
    private static final int LOOKS_OF_OBJECT = 100;

    private final List<String> names = new ArrayList<>();
    private final List<ToLongFunction<PairedCells>> looks = new ArrayList<>();
    private final List<String> lastNames = new ArrayList<>();
    private final List<ToLongFunction<PairedCells>> lastLooks = new ArrayList<>();

    private Looks() {
        for (int what : new int[] {0, 1, 2, 3, 10, 11, 12, 13, 14, 15}) {
            look("told " + what, x -> x.told(what));
        }
        look("first", PairedCells::first);
        look("count", PairedCells::count);
        for (int i = 0; i < 110; i++) {
            int number = i;
            look("length " + i, x -> x.length(number));
            look("event " + i, x -> x.event(number));
        }
        for (int block = 0; block < 6; block++) {
            lookAtBlock(block);
        }
        lastLook("off", PairedCells::off);
        lastLook("sync", PairedCells::sync);
        lastLook("append", x -> x.append(6, 1));
        lastLook("count after append and sync", Looks::writeAndSync);
        lastLook("programmings to a cut", Looks::countdown);
        lastLook("count after start", x -> started(x).count());
        lastLook("first after start", x -> started(x).first());
        lastLook("current block after start", x -> started(x).told(0));
    }

    /** What the state shows, a line for each look. */
    static List<String> at(Supplier<PairedCells> state) {
        Looks all = new Looks();
        List<String> answers = new ArrayList<>();
        PairedCells x = null;
        for (int k = 0; k < all.looks.size(); k++) {
            if (k % LOOKS_OF_OBJECT == 0) {
                x = state.get();
            }
            answers.add(all.names.get(k) + ": " + answer(all.looks.get(k), x));
        }
        for (int k = 0; k < all.lastLooks.size(); k++) {
            answers.add(all.lastNames.get(k) + ": " + answer(all.lastLooks.get(k), state.get()));
        }
        return answers;
    }

    /** The first look that differs, or "none". */
    static String difference(List<String> one, List<String> other) {
        for (int k = 0; k < one.size(); k++) {
            if (!one.get(k).equals(other.get(k))) {
                return one.get(k) + ", then " + other.get(k);
            }
        }
        return "none";
    }

    private void lookAtBlock(int block) {
        look("guard " + block, x -> x.guard(block));
        for (int k = 0; k < 17; k++) {
            int index = k;
            look("guarded " + block + " " + k, x -> x.guarded(block, index));
        }
        for (int place = 0; place < 16; place++) {
            int line = place % 8;
            boolean upper = place >= 8;
            look("page " + block + " " + line + " " + upper, x -> x.page(block, line, upper));
            for (int k = 0; k < 16; k++) {
                int index = k;
                look("at " + block + " " + line + " " + upper + " " + k, x -> x.at(block, line, upper, index));
            }
        }
    }

    private void look(String name, ToLongFunction<PairedCells> look) {
        names.add(name);
        looks.add(look);
    }

    /** A look that changes the log. */
    private void lastLook(String name, ToLongFunction<PairedCells> look) {
        lastNames.add(name);
        lastLooks.add(look);
    }

    private static long writeAndSync(PairedCells x) {
        x.append(1, 1);
        return x.sync();
    }

    private static long countdown(PairedCells x) {
        int done = 0;
        while (done < 20 && writeAndSync(x) >= 0) {
            done++;
        }
        return done;
    }

    private static PairedCells started(PairedCells x) {
        if (x.told(1) == 1) {
            x.off();
        }
        x.start();
        return x;
    }

    private static String answer(ToLongFunction<PairedCells> look, PairedCells x) {
        try {
            return Long.toString(look.applyAsLong(x));
        } catch (RuntimeException e) {
            return e.getClass().getSimpleName();
        }
    }
}
