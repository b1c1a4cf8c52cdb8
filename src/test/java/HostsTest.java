/** Promises 6 to 10 and 23 to 28: hosts. */
public final class HostsTest {
    private static final Checks CHECKS = new Checks();
    private static final int AWAY = RemoteMemoryPool.AWAY;
    private static final int LENDING = RemoteMemoryPool.LENDING;
    private static final int RECALLED = RemoteMemoryPool.RECALLED;
    private static final int NONE = RemoteMemoryPool.NONE;

    public static void main(String[] args) {
        promise06();
        promise06Refuses();
        promise07();
        promise07Refuses();
        promise08();
        promise09();
        promise09KeepsWhatIsNeeded();
        promise10();
        promise23();
        promise24();
        promise25And26();
        promise27();
        promise28();
        CHECKS.end();
    }

    private static TestedPool lending(int... capacities) {
        return PagesTest.lending(capacities);
    }

    private static void promise06() {
        TestedPool pool = new TestedPool();
        CHECKS.due("the least capacity", pool.lend(5, 1), 1);
        CHECKS.due("the greatest, in all", pool.lend(0, 20), 21);
        CHECKS.due("lending", pool.mode(5), LENDING);
        pool.crash(0);
        CHECKS.due("store", pool.store(0, 1), 1);
        CHECKS.due("before the pool settles", pool.lend(1, 3), 3);
        CHECKS.due("after it a place is reserved", pool.freeRoom(1), 2);
        CHECKS.due("the reserved place does not count", pool.lend(2, 4), 6);
        pool.disconnect(2);
        CHECKS.due("disconnected room does not count", pool.lend(3, 1), 3);
        CHECKS.due("undoable", pool.savedStates(), 6);
        pool.undo();
        CHECKS.due("undone", pool.mode(3), AWAY);
    }

    private static void promise06Refuses() {
        TestedPool pool = lending(1);
        CHECKS.outOfBounds("host -1", pool, () -> pool.lend(-1, 0));
        CHECKS.outOfBounds("host 6", pool, () -> pool.lend(6, 21));
        CHECKS.badArgument("capacity 0", pool, () -> pool.lend(1, 0));
        CHECKS.badArgument("capacity 21", pool, () -> pool.lend(0, 21));
        CHECKS.badState("it lends", pool, () -> pool.lend(0, 1));
        pool.store(0, 1);
        pool.recall(0, 5);
        CHECKS.badState("it is recalled", pool, () -> pool.lend(0, 1));
        pool.disconnect(0);
        pool.pass(5);
        CHECKS.due("away, but disconnected", pool.mode(0), AWAY);
        CHECKS.badState("it is disconnected", pool, () -> pool.lend(0, 1));
        pool.reconnect(0);
        CHECKS.due("connected it may lend", pool.lend(0, 2), 2);
    }

    private static void promise07() {
        TestedPool pool = lending(3, 3);
        pool.store(0, 1);
        pool.store(1, 1);
        CHECKS.due("the replicas that it holds", pool.recall(0, 600), 2);
        CHECKS.due("recalled", pool.mode(0), RECALLED);
        CHECKS.due("deadline", pool.deadlineIn(0), 600);
        CHECKS.due("no free room", pool.freeRoom(0), 0);
        CHECKS.due("its replicas are copies", pool.status(0), RemoteMemoryPool.SAFE);
        CHECKS.due("undoable", pool.savedStates(), 5);
        TestedPool empty = lending(3);
        CHECKS.due("nothing held", empty.recall(0, 1), 0);
        CHECKS.due("away at once", empty.mode(0), AWAY);

        TestedPool target = lending(2);
        target.store(0, 1);
        target.lend(1, 2);
        target.lend(2, 1);
        target.pass(2);
        CHECKS.due("it goes to host 1", target.transfer(2), 1);
        CHECKS.due("a reserved place is no replica", target.recall(1, 9), 0);
        CHECKS.due("away", target.mode(1), AWAY);
        CHECKS.due("now it goes to host 2", target.transfer(2), 2);
        CHECKS.due("from the start", target.transfer(3), 5);
        target.pass(2);
        CHECKS.due("recall the source", target.recall(0, 9), 1);
        CHECKS.due("goes on", target.transfer(3), 3);
        CHECKS.due("and completes", target.pass(3), 1);
        CHECKS.due("as a move, since the source is recalled by now", target.copies(0), 0b100);
        CHECKS.due("the source is away", target.mode(0), AWAY);
    }

    private static void promise07Refuses() {
        TestedPool pool = lending(1, 1);
        pool.store(0, 1);
        CHECKS.outOfBounds("host -1", pool, () -> pool.recall(-1, 0));
        CHECKS.outOfBounds("host 6", pool, () -> pool.recall(6, 1));
        CHECKS.badArgument("no seconds", pool, () -> pool.recall(0, 0));
        CHECKS.badArgument("601 seconds", pool, () -> pool.recall(5, 601));
        CHECKS.badState("away", pool, () -> pool.recall(5, 1));
        pool.recall(0, 1);
        CHECKS.badState("recalled", pool, () -> pool.recall(0, 1));
        pool.disconnect(1);
        CHECKS.badState("disconnected", pool, () -> pool.recall(1, 1));
    }

    private static void promise08() {
        TestedPool pool = lending(2, 2, 2);
        pool.store(0, 1);
        pool.store(1, 1);
        CHECKS.due("the replicas that it holds", pool.disconnect(0), 2);
        CHECKS.due("disconnected", pool.isConnected(0), false);
        CHECKS.due("it keeps its mode", pool.mode(0), LENDING);
        CHECKS.due("and its replicas", pool.usedRoom(0), 2);
        CHECKS.due("a transfer begins", pool.transfer(0) * 100 + pool.transfer(1) * 10 + pool.transfer(2), 12);
        pool.lend(3, 1);
        pool.pass(4);
        CHECKS.due("disconnect its target", pool.disconnect(2), 1);
        CHECKS.due("cancelled, and another one begins", pool.transfer(2) * 10 + pool.transfer(3), 35);
        CHECKS.badState("disconnected already", pool, () -> pool.disconnect(0));
        CHECKS.badState("away", pool, () -> pool.disconnect(5));
        CHECKS.outOfBounds("host -1", pool, () -> pool.disconnect(-1));
        CHECKS.outOfBounds("host 6", pool, () -> pool.disconnect(6));
        TestedPool source = lending(1);
        source.store(0, 1);
        source.lend(1, 1);
        source.disconnect(0);
        CHECKS.due("cancelled with its source", source.transfer(0), NONE);
        CHECKS.due("undoable", source.savedStates(), 4);
        TestedPool recalled = lending(1);
        recalled.store(0, 1);
        recalled.recall(0, 7);
        CHECKS.due("a recalled host too", recalled.disconnect(0), 1);
        CHECKS.due("its deadline stays", recalled.deadlineIn(0), 7);
        recalled.remove(0);
        CHECKS.due("disconnected it is not released", recalled.mode(0), RECALLED);
        recalled.pass(7);
        CHECKS.due("but at its deadline", recalled.mode(0), AWAY);
        CHECKS.due("all it held is gone", recalled.usedRoom(0), 0);
        CHECKS.due("still disconnected", recalled.isConnected(0), false);
        CHECKS.badState("away and disconnected", recalled, () -> recalled.disconnect(0));
    }

    private static void promise09() {
        TestedPool pool = lending(3, 3);
        pool.store(0, 1);
        pool.store(1, 1);
        pool.store(2, 1);
        pool.disconnect(0);
        pool.write(0, 2);
        pool.remove(1);
        CHECKS.due("two stale ones go", pool.reconnect(0), 2);
        CHECKS.due("connected", pool.isConnected(0), true);
        CHECKS.due("a fresh one stays", pool.copies(2), 0b11);
        CHECKS.due("undoable", pool.savedStates(), 6);
        CHECKS.due("page 0 has a transfer back", pool.transfer(0) * 10 + pool.transfer(2), 0);
        CHECKS.badState("connected already", pool, () -> pool.reconnect(0));
        CHECKS.badState("never disconnected", pool, () -> pool.reconnect(5));
        CHECKS.outOfBounds("host -1", pool, () -> pool.reconnect(-1));
        CHECKS.outOfBounds("host 6", pool, () -> pool.reconnect(6));
        TestedPool recalled = lending(1, 1);
        recalled.store(0, 1);
        recalled.recall(0, 100);
        recalled.disconnect(0);
        recalled.write(0, 2);
        CHECKS.due("a recalled host that loses its last replica", recalled.reconnect(0), 1);
        CHECKS.due("is released", recalled.mode(0), AWAY);
    }

    private static void promise09KeepsWhatIsNeeded() {
        TestedPool pool = lending(1, 1, 1);
        pool.store(0, 1);
        pool.disconnect(0);
        pool.pass(5);
        CHECKS.due("restored without host 0", pool.copies(0), 0b110);
        CHECKS.due("fresh but one too many", pool.replica(0, 0), 1);
        CHECKS.due("so it goes", pool.reconnect(0), 1);
        CHECKS.due("copies", pool.copies(0), 0b110);
        pool.undo();
        pool.disconnect(1);
        CHECKS.due("with one copy elsewhere it stays", pool.reconnect(0), 0);
        CHECKS.due("copies of it", pool.copies(0), 0b101);
        TestedPool last = lending(1, 1, 1);
        last.store(0, 1);
        last.disconnect(1);
        last.pass(5);
        CHECKS.due("too many, with copies on the first host and the last", last.reconnect(1), 1);
        CHECKS.due("copies on both sides", last.copies(0), 0b101);
        TestedPool during = lending(1, 1, 1);
        during.store(0, 1);
        during.disconnect(0);
        during.pass(2);
        CHECKS.due("back before the transfer is completed", during.reconnect(0), 0);
        CHECKS.due("the transfer goes on", during.transfer(3), 3);
        CHECKS.due("it counts, though nothing changes", during.pass(3), 1);
        CHECKS.due("two copies", during.copies(0), 0b011);
        CHECKS.due("counted", during.completedTransfers(), 1);
        CHECKS.due("the room is free again", during.freeRoom(2), 1);
    }

    private static void promise10() {
        TestedPool pool = lending(2, 2);
        pool.store(0, 1);
        pool.store(1, 1);
        pool.disconnect(0);
        pool.write(0, 2);
        CHECKS.due("fresh and stale ones", pool.crash(0), 2);
        CHECKS.due("away", pool.mode(0), AWAY);
        CHECKS.due("and connected", pool.isConnected(0), true);
        CHECKS.due("holding nothing", pool.usedRoom(0), 0);
        CHECKS.due("endangered", pool.countStatus(RemoteMemoryPool.ENDANGERED), 2);
        CHECKS.badState("away already", pool, () -> pool.crash(0));
        CHECKS.outOfBounds("host -1", pool, () -> pool.crash(-1));
        CHECKS.outOfBounds("host 6", pool, () -> pool.crash(6));
        CHECKS.due("undoable", pool.savedStates(), 6);
        pool.lend(0, 2);
        pool.lend(2, 1);
        pool.pass(3);
        CHECKS.due("under way to host 0", pool.transfer(2), 0);
        CHECKS.due("its target crashes", pool.crash(0), 0);
        CHECKS.due("another begins", pool.transfer(2) * 10 + pool.transfer(3), 25);
        CHECKS.due("its source crashes", pool.crash(1), 2);
        CHECKS.due("cancelled", pool.transfer(0), NONE);
        CHECKS.due("lost", pool.countStatus(RemoteMemoryPool.LOST), 2);
        TestedPool other = lending(2);
        other.store(0, 1);
        other.lend(1, 2);
        other.lend(2, 1);
        other.pass(1);
        other.crash(2);
        CHECKS.due("a crash elsewhere leaves the transfer", other.transfer(3), 4);
        TestedPool recalled = lending(1, 1);
        recalled.store(0, 1);
        recalled.recall(0, 50);
        CHECKS.due("a recalled host too", recalled.crash(0), 1);
        CHECKS.due("it has no deadline any more", recalled.deadlineIn(0), NONE);
        TestedPool gone = lending(1);
        gone.store(0, 1);
        gone.recall(0, 1);
        gone.disconnect(0);
        gone.pass(1);
        CHECKS.badState("away and disconnected", gone, () -> gone.crash(0));
    }

    private static void promise23() {
        TestedPool pool = lending(1, 1);
        pool.store(0, 1);
        pool.recall(1, 3);
        CHECKS.due("lending", pool.mode(0), LENDING);
        CHECKS.due("recalled", pool.mode(1), RECALLED);
        CHECKS.due("away", pool.mode(5), AWAY);
        pool.pass(2);
        CHECKS.due("a second before its deadline", pool.mode(1), RECALLED);
        pool.pass(1);
        CHECKS.due("at its deadline", pool.mode(1), AWAY);
        CHECKS.outOfBounds("host -1", pool, () -> pool.mode(-1));
        CHECKS.outOfBounds("host 6", pool, () -> pool.mode(6));
    }

    private static void promise24() {
        TestedPool pool = lending(1, 1);
        pool.disconnect(1);
        CHECKS.due("connected", pool.isConnected(0), true);
        CHECKS.due("disconnected", pool.isConnected(1), false);
        CHECKS.due("away", pool.isConnected(5), true);
        CHECKS.outOfBounds("host -1", pool, () -> pool.isConnected(-1) ? 1 : 0);
        CHECKS.outOfBounds("host 6", pool, () -> pool.isConnected(6) ? 1 : 0);
    }

    private static void promise25And26() {
        TestedPool pool = lending(4, 3);
        pool.store(0, 1);
        pool.store(1, 1);
        CHECKS.due("used by replicas", pool.usedRoom(0), 2);
        CHECKS.due("free", pool.freeRoom(0), 2);
        CHECKS.due("free on 1", pool.freeRoom(1), 1);
        pool.disconnect(1);
        CHECKS.due("used while disconnected", pool.usedRoom(1), 2);
        CHECKS.due("free while disconnected", pool.freeRoom(1), 0);
        pool.write(0, 2);
        CHECKS.due("stale ones use room", pool.usedRoom(1), 2);
        pool.lend(2, 5);
        CHECKS.due("the transfer uses room at its target", pool.usedRoom(2), 1);
        CHECKS.due("free there", pool.freeRoom(2), 4);
        CHECKS.due("not at its source", pool.usedRoom(0), 2);
        pool.pass(5);
        CHECKS.due("a replica, and the next transfer", pool.usedRoom(2), 2);
        pool.recall(0, 99);
        CHECKS.due("used while recalled", pool.usedRoom(0), 2);
        CHECKS.due("free while recalled", pool.freeRoom(0), 0);
        CHECKS.due("away", pool.usedRoom(5) + pool.freeRoom(5), 0);
        CHECKS.outOfBounds("used of host -1", pool, () -> pool.usedRoom(-1));
        CHECKS.outOfBounds("used of host 6", pool, () -> pool.usedRoom(6));
        CHECKS.outOfBounds("free of host -1", pool, () -> pool.freeRoom(-1));
        CHECKS.outOfBounds("free of host 6", pool, () -> pool.freeRoom(6));
        CHECKS.due("the greatest capacity", lending(20).freeRoom(0), 20);
    }

    private static void promise27() {
        TestedPool pool = lending(1, 1);
        pool.store(0, 1);
        pool.pass(10);
        pool.recall(1, 30);
        CHECKS.due("at first", pool.deadlineIn(1), 30);
        pool.pass(29);
        CHECKS.due("later", pool.deadlineIn(1), 1);
        pool.disconnect(1);
        CHECKS.due("disconnected too", pool.deadlineIn(1), 1);
        CHECKS.due("lending", pool.deadlineIn(0), NONE);
        CHECKS.due("away", pool.deadlineIn(5), NONE);
        pool.pass(1);
        CHECKS.due("past", pool.deadlineIn(1), NONE);
        CHECKS.outOfBounds("host -1", pool, () -> pool.deadlineIn(-1));
        CHECKS.outOfBounds("host 6", pool, () -> pool.deadlineIn(6));
    }

    private static void promise28() {
        TestedPool pool = lending(2, 2);
        pool.store(29, 1);
        CHECKS.due("fresh", pool.replica(0, 29), 1);
        CHECKS.due("no replica of that page", pool.replica(0, 0), 0);
        CHECKS.due("no replica on that host", pool.replica(5, 29), 0);
        pool.disconnect(0);
        CHECKS.due("fresh on a disconnected host", pool.replica(0, 29), 1);
        pool.remove(29);
        CHECKS.due("stale once the page is removed", pool.replica(0, 29), 2);
        CHECKS.due("none where it was reached", pool.replica(1, 29), 0);
        CHECKS.outOfBounds("host -1", pool, () -> pool.replica(-1, 0));
        CHECKS.outOfBounds("host 6", pool, () -> pool.replica(6, 0));
        CHECKS.outOfBounds("page -1", pool, () -> pool.replica(0, -1));
        CHECKS.outOfBounds("page 30", pool, () -> pool.replica(0, 30));
        CHECKS.outOfBounds("neither", pool, () -> pool.replica(6, 30));
    }
}
