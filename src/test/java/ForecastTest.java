/** Promises 32 to 35: what would happen. */
public final class ForecastTest {
    private static final Checks CHECKS = new Checks();
    private static final int NONE = RemoteMemoryPool.NONE;

    public static void main(String[] args) {
        promise32();
        promise33();
        promise34();
        promise35();
        promise35AtItsEnd();
        CHECKS.end();
    }

    private static TestedPool lending(int... capacities) {
        return PagesTest.lending(capacities);
    }

    private static void promise32() {
        TestedPool pool = lending(3, 2);
        pool.store(0, 1);
        pool.store(1, 1);
        pool.store(2, 1);
        CHECKS.due("none", pool.lostWithout(0), 0);
        CHECKS.due("the page with one copy", pool.lostWithout(0b000001), 1);
        CHECKS.due("no page has all on host 1", pool.lostWithout(0b000010), 0);
        CHECKS.due("both", pool.lostWithout(0b000011), 3);
        CHECKS.due("all hosts", pool.lostWithout(63), 3);
        CHECKS.due("idle hosts", pool.lostWithout(0b111100), 0);
        pool.disconnect(1);
        CHECKS.due("fresh ones count while disconnected", pool.lostWithout(0b000001), 1);
        pool.write(0, 2);
        CHECKS.due("stale ones do not", pool.lostWithout(0b000001), 2);
        pool.disconnect(0);
        CHECKS.due("UNAVAILABLE pages count too", pool.lostWithout(0b000001), 2);
        pool.crash(0);
        CHECKS.due("LOST pages do not", pool.lostWithout(63), 1);
        CHECKS.badArgument("-1", pool, () -> pool.lostWithout(-1));
        CHECKS.badArgument("64", pool, () -> pool.lostWithout(64));
    }

    private static void promise33() {
        CHECKS.due("nothing to lose: the first pair", new TestedPool().worstPair(), 1);
        TestedPool pool = new TestedPool();
        pool.lend(4, 3);
        pool.lend(5, 3);
        pool.store(0, 1);
        CHECKS.due("the last pair", pool.worstPair(), 29);
        pool.lend(2, 9);
        pool.lend(3, 9);
        pool.store(1, 1);
        CHECKS.due("of equal pairs the first", pool.worstPair(), 15);
        pool.crash(2);
        CHECKS.due("page 1 on host 3 alone: with the lowest other host", pool.worstPair(), 3);
        CHECKS.due("saved", pool.savedStates(), 6);
        TestedPool most = lending(1, 1, 3, 3);
        most.store(0, 1);
        most.store(1, 1);
        most.store(2, 1);
        CHECKS.due("two pages before one", most.worstPair(), 15);
    }

    private static void promise34() {
        TestedPool pool = lending(3, 3);
        pool.store(0, 1);
        pool.store(1, 1);
        pool.store(2, 1);
        pool.recall(0, 10);
        pool.recall(1, 12);
        CHECKS.due("not yet", pool.lostIn(11), 0);
        CHECKS.due("at the deadline", pool.lostIn(12), 3);
        CHECKS.due("and later", pool.lostIn(600), 3);
        pool.lend(2, 3);
        CHECKS.due("host 0 saves one by time 5, and another by time 10", pool.lostIn(600), 1);
        CHECKS.due("and this is so", pool.pass(600) * 10 + pool.countStatus(RemoteMemoryPool.LOST), 21);
        pool.remove(2);
        CHECKS.due("none is lost now", pool.lostIn(1), 0);
        CHECKS.badArgument("0", pool, () -> pool.lostIn(0));
        CHECKS.badArgument("601", pool, () -> pool.lostIn(601));
        CHECKS.badArgument("-1", pool, () -> pool.lostIn(-1));
        TestedPool already = lending(1);
        already.store(0, 1);
        already.crash(0);
        CHECKS.due("a page that is LOST now counts", already.lostIn(1), 1);
    }

    private static void promise35() {
        TestedPool pool = lending(2, 2);
        pool.store(0, 1);
        pool.store(1, 1);
        CHECKS.due("at rest", pool.restsIn(), 0);
        pool.recall(1, 30);
        CHECKS.due("until the deadline", pool.restsIn(), 30);
        pool.lend(2, 1);
        CHECKS.due("one page goes, the other has no room", pool.restsIn(), 30);
        pool.lend(3, 1);
        CHECKS.due("released after two transfers", pool.restsIn(), 10);
        pool.pass(3);
        CHECKS.due("seconds from now", pool.restsIn(), 7);
        pool.disconnect(1);
        CHECKS.due("disconnected it waits for its deadline, and page 0 and 1 are restored", pool.restsIn(), 27);
        String before = Observation.of(pool);
        pool.restsIn();
        CHECKS.due("it changes nothing", Observation.of(pool), before);
        TestedPool chain = lending(1);
        chain.store(0, 1);
        chain.lend(1, 1);
        CHECKS.due("a transfer without a recall", chain.restsIn(), 5);
    }

    private static void promise35AtItsEnd() {
        TestedPool recalled = lending(1);
        recalled.store(0, 1);
        recalled.recall(0, 600);
        CHECKS.due("the last second", recalled.restsIn(), 600);
        TestedPool busy = lending(11);
        for (int page = 0; page < 10; page++) {
            busy.store(page, 1);
        }
        busy.setTransferTime(60);
        busy.lend(1, 11);
        CHECKS.due("ten transfers of sixty seconds", busy.restsIn(), 600);
        busy.store(10, 1);
        busy.disconnect(1);
        busy.reconnect(1);
        CHECKS.due("page 10 has its second copy already", busy.restsIn(), 600);
        TestedPool longer = lending(11);
        for (int page = 0; page < 11; page++) {
            longer.store(page, 1);
        }
        longer.setTransferTime(60);
        longer.lend(1, 11);
        CHECKS.due("eleven do not fit", longer.restsIn(), NONE);
        longer.pass(60);
        CHECKS.due("a minute later they do", longer.restsIn(), 600);
        longer.undo();
        longer.pass(59);
        CHECKS.due("a second too early", longer.restsIn(), NONE);
    }
}
