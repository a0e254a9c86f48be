import java.util.Random;
import java.util.TreeMap;
import java.util.function.LongSupplier;

/** Runs of 512 calls, chosen by fixed seeds: the program answers each as the model does. */
public final class LongRunTest {
    private static final int RUNS = 3000;
    private static final int CALLS = 512;
    private static final Checks CHECKS = new Checks();

    /** How often each kind of answer came, to see that the runs reach the rare states. */
    private static final TreeMap<String, Integer> SEEN = new TreeMap<>();

    private final Random random;
    private final PairedCells x = new PairedCells();
    private final Model model = new Model();
    private final int seed;
    private final int ruins;
    private final int cuts;
    private final int trims;
    private final int looks;
    private final int offs;

    private LongRunTest(int seed) {
        this.seed = seed;
        random = new Random(seed);
        ruins = random.nextInt(3) * random.nextInt(30);
        cuts = random.nextInt(3) * random.nextInt(20);
        trims = random.nextInt(3) * random.nextInt(15);
        looks = random.nextInt(200);
        offs = random.nextInt(3) * random.nextInt(5);
    }

    public static void main(String[] args) {
        for (int seed = 0; seed < RUNS && CHECKS.clean(); seed++) {
            new LongRunTest(seed).run();
        }
        for (String rare : new String[] {"append UnsupportedOperationException", "sync UnsupportedOperationException",
                "append -2", "sync -2", "page 3", "guard 2", "event NoSuchElementException", "length -1",
                "told 0: 5", "trim 5", "start 0", "at NoSuchElementException"}) {
            CHECKS.same("the runs reach " + rare, true, SEEN.containsKey(rare));
        }
        CHECKS.finish();
    }

    private void run() {
        for (int k = 0; k < CALLS && CHECKS.clean(); k++) {
            if (model.told(1) == 0 && random.nextInt(3) > 0) {
                compare("start", x::start, model::start);
            } else {
                call();
            }
        }
    }

    private void call() {
        int choice = random.nextInt(250 + looks + ruins + cuts + trims + offs);
        if (choice < 250) {
            write();
        } else if (choice < 250 + looks) {
            look();
        } else if (choice < 250 + looks + ruins) {
            int block = random.nextBoolean() ? model.told(0) : wild(6);
            int line = wild(8);
            boolean upper = random.nextInt(3) == 0;
            compare("ruin", () -> x.ruin(block, line, upper) ? 1 : 0, () -> model.ruin(block, line, upper) ? 1 : 0);
        } else if (choice < 250 + looks + ruins + cuts) {
            int n = random.nextInt(8) == 0 ? wild(61) : random.nextInt(12);
            compare("cutAfter", () -> { x.cutAfter(n); return 0; }, () -> { model.cutAfter(n); return 0; });
        } else if (choice < 250 + looks + ruins + cuts + trims) {
            int n = known();
            compare("trim", () -> x.trim(n), () -> model.trim(n));
        } else {
            compare("off", x::off, model::off);
        }
    }

    private void write() {
        if (random.nextInt(4) == 0) {
            compare("sync", x::sync, model::sync);
            return;
        }
        int n = random.nextInt(40) == 0 ? wild(7) : seed % 2 == 0 ? 6 : 1 + random.nextInt(6);
        long w = random.nextLong();
        compare("append", () -> x.append(n, w), () -> model.append(n, w));
    }

    private void look() {
        int i = known();
        int block = wild(6);
        int line = wild(8);
        int k = wild(17);
        boolean upper = random.nextBoolean();
        switch (random.nextInt(10)) {
            case 0 -> compare("first", x::first, model::first);
            case 1 -> compare("count", x::count, model::count);
            case 2 -> compare("length", () -> x.length(i), () -> model.length(i));
            case 3, 4 -> compare("event", () -> x.event(i), () -> model.event(i));
            case 5 -> compare("page", () -> x.page(block, line, upper), () -> model.page(block, line, upper));
            case 6 -> compare("at", () -> x.at(block, line, upper, k), () -> model.at(block, line, upper, k));
            case 7 -> compare("guard", () -> x.guard(block), () -> model.guard(block));
            case 8 -> compare("guarded", () -> x.guarded(block, k), () -> model.guarded(block, k));
            default -> {
                int what = random.nextBoolean() ? random.nextInt(4) : wild(17);
                compare("told " + what + ":", () -> x.told(what), () -> model.told(what));
            }
        }
    }

    /** Mostly the number of an event, at times one before or behind them. */
    private int known() {
        return model.told(1) == 1 ? model.first() - 1 + random.nextInt(model.count() - model.first() + 3) : wild(100);
    }

    /** Mostly less than the bound and not negative, at times not. */
    private int wild(int bound) {
        return random.nextInt(20) == 0 ? (random.nextBoolean() ? random.nextInt() : random.nextInt(4) - 2 + bound)
                : random.nextInt(bound);
    }

    private void compare(String call, LongSupplier got, LongSupplier due) {
        String wanted = answer(due);
        CHECKS.same("seed " + seed + ": " + call, wanted, answer(got));
        SEEN.merge(call + " " + wanted, 1, Integer::sum);
    }

    private static String answer(LongSupplier call) {
        try {
            return Long.toString(call.getAsLong());
        } catch (RuntimeException e) {
            return e.getClass().getSimpleName();
        }
    }
}
