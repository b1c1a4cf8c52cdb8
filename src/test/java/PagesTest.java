/** Promises 2 to 5 and 20 to 22: pages. */
public final class PagesTest {
    private static final Checks CHECKS = new Checks();

    public static void main(String[] args) {
        promise02Places();
        promise02Refuses();
        promise03Writes();
        promise03Refuses();
        promise04();
        promise05Removes();
        promise05CancelsTheTransfer();
        promise05Refuses();
        promise20();
        promise21();
        promise22();
        CHECKS.end();
    }

    /** Hosts 0, 1, .. lend these capacities. */
    static TestedPool lending(int... capacities) {
        TestedPool pool = new TestedPool();
        for (int host = 0; host < capacities.length; host++) {
            pool.lend(host, capacities[host]);
        }
        return pool;
    }

    private static void promise02Places() {
        TestedPool pool = lending(2, 3, 3);
        CHECKS.due("store on the two with the most room", pool.store(0, 0), 2);
        CHECKS.due("the lower of equal hosts, then the other", pool.copies(0), 0b110);
        CHECKS.due("store with equal room everywhere", pool.store(29, 9999), 2);
        CHECKS.due("the lowest two", pool.copies(29), 0b011);
        CHECKS.due("the value", pool.read(29), 9999);
        CHECKS.due("store again", pool.store(5, 1), 2);
        CHECKS.due("host 2 has more room; of 0 and 1 it is 0", pool.copies(5), 0b101);
        CHECKS.due("store by one place a host", pool.store(6, 1), 2);
        CHECKS.due("the last two places", pool.copies(6), 0b110);
        CHECKS.badState("no room is left", pool, () -> pool.store(7, 1));
        CHECKS.due("undoable", pool.savedStates(), 6);

        TestedPool single = lending(1);
        CHECKS.due("one host takes one replica only", single.store(3, 4), 1);
        CHECKS.due("its status", single.status(3), RemoteMemoryPool.ENDANGERED);
        TestedPool wide = lending(5);
        CHECKS.due("never two replicas on one host", wide.store(3, 4), 1);
        CHECKS.due("used", wide.usedRoom(0), 1);
    }

    private static void promise02Refuses() {
        TestedPool pool = lending(2, 2);
        CHECKS.outOfBounds("page -1", pool, () -> pool.store(-1, -1));
        CHECKS.outOfBounds("page 30", pool, () -> pool.store(30, 10000));
        CHECKS.outOfBounds("page far off", pool, () -> pool.store(Integer.MIN_VALUE, 0));
        CHECKS.badArgument("value -1", pool, () -> pool.store(0, -1));
        CHECKS.badArgument("value 10000", pool, () -> pool.store(0, 10000));
        pool.store(0, 1);
        CHECKS.badState("the page exists", pool, () -> pool.store(0, 2));
        CHECKS.badArgument("the value goes before the state", pool, () -> pool.store(0, 10000));
        pool.crash(0);
        pool.crash(1);
        pool.lend(0, 2);
        CHECKS.badState("a LOST page exists", pool, () -> pool.store(0, 2));
        pool.remove(0);
        CHECKS.due("stored anew", pool.store(0, 2), 1);
        TestedPool recalled = lending(2, 2);
        recalled.store(0, 1);
        recalled.recall(0, 5);
        recalled.disconnect(1);
        CHECKS.badState("recalled and disconnected hosts take nothing", recalled, () -> recalled.store(1, 1));
        TestedPool none = new TestedPool();
        CHECKS.badState("no host lends", none, () -> none.store(0, 0));
    }

    private static void promise03Writes() {
        TestedPool pool = lending(2, 2, 1);
        pool.store(4, 10);
        CHECKS.due("write both copies", pool.write(4, 9999), 2);
        CHECKS.due("the new value", pool.read(4), 9999);
        CHECKS.due("still fresh", pool.replica(0, 4) + pool.replica(1, 4), 2);
        pool.disconnect(0);
        CHECKS.due("fresh while nothing is written", pool.replica(0, 4), 1);
        CHECKS.due("write the one that is reached", pool.write(4, 0), 1);
        CHECKS.due("the other is stale by that", pool.replica(0, 4), 2);
        CHECKS.due("the written one is fresh", pool.replica(1, 4), 1);
        CHECKS.due("a second write", pool.write(4, 7), 1);
        CHECKS.due("stale it stays", pool.replica(0, 4), 2);
        CHECKS.due("the transfer goes on", pool.transfer(0), 4);
        pool.pass(5);
        CHECKS.due("the transfer brings the written page", pool.replica(2, 4), 1);
        CHECKS.due("the value", pool.read(4), 7);
        int saved = pool.savedStates();
        pool.undo();
        CHECKS.due("undoable", saved, 6);
    }

    private static void promise03Refuses() {
        TestedPool pool = lending(1, 1);
        pool.store(1, 1);
        CHECKS.outOfBounds("page -1", pool, () -> pool.write(-1, -1));
        CHECKS.outOfBounds("page 30", pool, () -> pool.write(30, 0));
        CHECKS.badArgument("value -1", pool, () -> pool.write(1, -1));
        CHECKS.badArgument("value 10000 of no page", pool, () -> pool.write(0, 10000));
        CHECKS.badState("no such page", pool, () -> pool.write(0, 0));
        pool.disconnect(0);
        pool.disconnect(1);
        CHECKS.badState("UNAVAILABLE", pool, () -> pool.write(1, 0));
        pool.crash(0);
        pool.crash(1);
        CHECKS.badState("LOST", pool, () -> pool.write(1, 0));
    }

    private static void promise04() {
        TestedPool pool = lending(1, 1);
        pool.store(0, 1234);
        int saved = pool.savedStates();
        CHECKS.due("read", pool.read(0), 1234);
        CHECKS.due("not undoable", pool.savedStates(), saved);
        CHECKS.outOfBounds("page -1", pool, () -> pool.read(-1));
        CHECKS.outOfBounds("page 30", pool, () -> pool.read(30));
        CHECKS.badState("no such page", pool, () -> pool.read(29));
        pool.disconnect(0);
        CHECKS.due("by the one copy", pool.read(0), 1234);
        pool.disconnect(1);
        CHECKS.badState("UNAVAILABLE", pool, () -> pool.read(0));
        pool.reconnect(0);
        CHECKS.due("reached again", pool.read(0), 1234);
        pool.crash(0);
        pool.crash(1);
        CHECKS.badState("LOST", pool, () -> pool.read(0));
    }

    private static void promise05Removes() {
        TestedPool pool = lending(1, 1, 1);
        pool.store(0, 1);
        pool.disconnect(1);
        pool.pass(5);
        CHECKS.due("copies and a replica that is cut off", pool.copies(0), 0b101);
        CHECKS.due("only copies are removed", pool.remove(0), 2);
        CHECKS.due("gone", pool.status(0), RemoteMemoryPool.NONE);
        CHECKS.due("the room is free", pool.freeRoom(0) + pool.freeRoom(2), 2);
        CHECKS.due("what was cut off is stale", pool.replica(1, 0), 2);
        CHECKS.due("and takes room", pool.usedRoom(1), 1);
        pool.store(0, 2);
        CHECKS.due("stale also for a later page of that number", pool.replica(1, 0), 2);
        CHECKS.due("which has other copies", pool.copies(0), 0b101);
        CHECKS.due("the stale one goes on reconnecting", pool.reconnect(1), 1);
        CHECKS.due("undoable", pool.savedStates(), 6);

        TestedPool lost = lending(1);
        lost.store(2, 1);
        lost.crash(0);
        CHECKS.due("a LOST page has no copies to remove", lost.remove(2), 0);
        CHECKS.due("but goes", lost.status(2), RemoteMemoryPool.NONE);
        TestedPool released = lending(1);
        released.store(2, 1);
        released.recall(0, 100);
        CHECKS.due("remove the last replica of a recalled host", released.remove(2), 1);
        CHECKS.due("it may go", released.mode(0), RemoteMemoryPool.AWAY);
    }

    private static void promise05CancelsTheTransfer() {
        TestedPool pool = lending(2);
        pool.store(0, 1);
        pool.store(1, 1);
        pool.lend(1, 2);
        CHECKS.due("under way", pool.transfer(0), 0);
        pool.pass(2);
        pool.remove(1);
        CHECKS.due("another page does not matter", pool.transfer(3), 3);
        pool.undo();
        pool.remove(0);
        CHECKS.due("the next transfer", pool.transfer(0), 1);
        CHECKS.due("begins now", pool.transfer(3), 5);
        pool.remove(1);
        CHECKS.due("none is left", pool.transfer(0), RemoteMemoryPool.NONE);
        CHECKS.due("nothing is reserved", pool.usedRoom(1), 0);
    }

    private static void promise05Refuses() {
        TestedPool pool = lending(1, 1);
        pool.store(0, 1);
        CHECKS.outOfBounds("page -1", pool, () -> pool.remove(-1));
        CHECKS.outOfBounds("page 30", pool, () -> pool.remove(30));
        CHECKS.badState("no such page", pool, () -> pool.remove(1));
        pool.remove(0);
        CHECKS.badState("removed already", pool, () -> pool.remove(0));
    }

    /** Page 0 SAFE, 1 ENDANGERED, 2 UNAVAILABLE, 3 LOST, 4 none. */
    private static TestedPool allStatuses() {
        TestedPool pool = lending(1, 1);
        pool.store(3, 1);
        pool.crash(0);
        pool.crash(1);
        pool.lend(0, 1);
        pool.lend(1, 1);
        pool.store(2, 1);
        pool.disconnect(0);
        pool.disconnect(1);
        pool.lend(2, 2);
        pool.lend(3, 1);
        pool.store(0, 1);
        pool.store(1, 1);
        return pool;
    }

    private static void promise20() {
        TestedPool pool = allStatuses();
        CHECKS.due("SAFE", pool.status(0), 2);
        CHECKS.due("ENDANGERED", pool.status(1), 1);
        CHECKS.due("UNAVAILABLE", pool.status(2), 0);
        CHECKS.due("LOST", pool.status(3), -2);
        CHECKS.due("no page", pool.status(29), -1);
        CHECKS.outOfBounds("page -1", pool, () -> pool.status(-1));
        CHECKS.outOfBounds("page 30", pool, () -> pool.status(30));
        TestedPool stale = lending(1, 1);
        stale.store(0, 1);
        stale.disconnect(0);
        stale.write(0, 2);
        stale.crash(1);
        CHECKS.due("a stale replica does not save a page", stale.status(0), RemoteMemoryPool.LOST);
    }

    private static void promise21() {
        TestedPool pool = allStatuses();
        CHECKS.due("two", pool.copies(0), 0b1100);
        CHECKS.due("one", pool.copies(1), 0b0100);
        CHECKS.due("none is reached", pool.copies(2), 0);
        CHECKS.due("none", pool.copies(3), 0);
        CHECKS.due("no page", pool.copies(4), 0);
        pool.reconnect(1);
        CHECKS.due("reached again", pool.copies(2), 0b0010);
        CHECKS.outOfBounds("page -1", pool, () -> pool.copies(-1));
        CHECKS.outOfBounds("page 30", pool, () -> pool.copies(30));
    }

    private static void promise22() {
        TestedPool pool = allStatuses();
        CHECKS.due("SAFE", pool.countStatus(2), 1);
        CHECKS.due("ENDANGERED", pool.countStatus(1), 1);
        CHECKS.due("UNAVAILABLE", pool.countStatus(0), 1);
        CHECKS.due("LOST", pool.countStatus(-2), 1);
        CHECKS.badArgument("NONE is no status", pool, () -> pool.countStatus(-1));
        CHECKS.badArgument("3", pool, () -> pool.countStatus(3));
        CHECKS.badArgument("-3", pool, () -> pool.countStatus(-3));
        TestedPool full = lending(20, 20);
        for (int page = 0; page < 20; page++) {
            full.store(page, page);
        }
        CHECKS.due("twenty on full hosts", full.countStatus(2), 20);
        full.crash(0);
        CHECKS.due("all endangered", full.countStatus(1), 20);
    }
}
