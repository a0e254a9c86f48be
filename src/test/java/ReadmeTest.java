/** The examples of README.md, with the answers that it tells. */
public final class ReadmeTest {
    private static final Checks CHECKS = new Checks();

    public static void main(String[] args) {
        aLogThatIsCut();
        aLowerPageThatIsRebuilt();
        CHECKS.finish();
    }

    private static void aLogThatIsCut() {
        PairedCells log = new PairedCells();
        CHECKS.same("append", 0, log.append(2, 0x1234L));
        CHECKS.same("sync", 1, log.sync());
        log.cutAfter(1);
        log.append(1, 7L);
        CHECKS.same("sync, cut", PairedCells.CUT, log.sync());
        CHECKS.same("start", 1, log.start());
        CHECKS.same("event", 0x1234L, log.event(0));
    }

    private static void aLowerPageThatIsRebuilt() {
        PairedCells log = new PairedCells();
        for (int k = 0; k < 9; k++) {
            CHECKS.same("guard page before page " + k, 0, log.guard(0));
            log.append(1, 10 + k);
            log.sync();
        }
        CHECKS.same("guard page", 1, log.guard(0));
        log.append(1, 99L);
        log.cutAfter(1);
        CHECKS.same("sync, cut", PairedCells.CUT, log.sync());
        CHECKS.same("upper page", 2, log.page(0, 1, true));
        CHECKS.same("lower page", 3, log.page(0, 1, false));
        CHECKS.same("start", 9, log.start());
        for (int i = 0; i < 9; i++) {
            CHECKS.same("event " + i, 10 + i, log.event(i));
        }
    }
}
