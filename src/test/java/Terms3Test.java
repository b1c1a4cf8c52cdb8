/** The sentences of the document's section 3, the operations, that name a boundary case, each with a test. */
public final class Terms3Test {
    private static final Checks CHECKS = new Checks();
    private static final int NONE = RemoteMemoryPool.NONE;
    private static final int AWAY = RemoteMemoryPool.AWAY;
    private static final int LENDING = RemoteMemoryPool.LENDING;
    private static final int RECALLED = RemoteMemoryPool.RECALLED;

    public static void main(String[] args) {
        store();
        storePlacesTwice();
        storeBesideStaleReplicas();
        write();
        writeMakesStale();
        remove();
        lend();
        recall();
        recallCancels();
        disconnect();
        disconnectCancels();
        reconnect();
        reconnectRemovesStale();
        reconnectRemovesTheThird();
        crash();
        crashCancels();
        removalCancels();
        settlesFirstByRelease();
        settlesThenByATransfer();
        settlesOnlyWithoutATransfer();
        CHECKS.end();
    }

    private static void store() {
        CHECKS.sentence("3: To store a page that does not exist: it exists from now on, with the given value and a new stamp.");
        TestedPool pool = Pools.after("l0,2 l1,2 s0,9");
        CHECKS.due("it exists", pool.status(0), RemoteMemoryPool.SAFE);
        CHECKS.due("its value", pool.read(0), 9);
        CHECKS.badState("it exists already", pool, () -> pool.store(0, 9));
        pool.remove(0);
        CHECKS.due("removed it may be stored", pool.store(0, 0), 2);
        CHECKS.due("with its new value", pool.read(0), 0);
        Pools.does(pool, "o0 o1 l2,1");
        CHECKS.badState("UNAVAILABLE it exists", pool, () -> pool.store(0, 1));
        Pools.does(pool, "x0 x1");
        CHECKS.badState("LOST it exists", pool, () -> pool.store(0, 1));
    }

    private static void storePlacesTwice() {
        CHECKS.sentence("3: Then, twice in succession, the best host for the page gets a replica with this stamp, if there is a best host.");
        CHECKS.due("no third replica", Pools.after("l0,9 l1,9 l2,9 s0,1").copies(0), 0b011);
        CHECKS.due("two hosts", Pools.after("l4,1 l5,1 s0,1").copies(0), 0b110000);
        CHECKS.due("one host with room", Pools.after("l0,2 l1,1 s0,1 s1,1").copies(1), 0b01);
        CHECKS.due("one host", Pools.after("l5,9 s0,1").copies(0), 0b100000);
        TestedPool none = Pools.after("l0,1 s0,1");
        CHECKS.badState("no host: nothing is stored", none, () -> none.store(1, 1));
        CHECKS.due("both are fresh", Pools.after("l0,1 l1,1 s3,1").lostWithout(0b01) + Pools.after("l0,1 l1,1 s3,1").lostWithout(0b11), 1);
    }

    private static void storeBesideStaleReplicas() {
        CHECKS.sentence("3: (The replicas of an earlier page of the same number on disconnected hosts are stale, and their hosts are not best hosts.)");
        TestedPool pool = Pools.after("l0,20 l1,1 s0,1 o0 d0");
        CHECKS.due("stale before", pool.replica(0, 0), 2);
        CHECKS.due("stored on the connected host alone", pool.store(0, 1), 1);
        CHECKS.due("stale afterwards", pool.replica(0, 0), 2);
        CHECKS.due("no transfer to it", pool.transfer(0), NONE);
        CHECKS.due("on reconnecting it goes", pool.reconnect(0), 1);
        CHECKS.due("and its host is best again", Pools.transfer(pool), 10);
        TestedPool both = Pools.after("l0,1 l1,1 s0,1 o0 o1 d0");
        CHECKS.badState("both hosts hold stale ones", both, () -> both.store(0, 1));
    }

    private static void write() {
        CHECKS.sentence("3: To write a page that has a copy: it gets the given value and a new stamp, and each of its copies gets this stamp.");
        TestedPool pool = Pools.after("l0,1 l1,1 s0,1");
        CHECKS.due("two copies", pool.write(0, 2), 2);
        CHECKS.due("fresh by that", pool.replica(0, 0) * 10 + pool.replica(1, 0), 11);
        CHECKS.due("its value", pool.read(0), 2);
        Pools.does(pool, "r1,9 o0");
        CHECKS.due("one copy, on a RECALLED host", pool.write(0, 3), 1);
        CHECKS.due("fresh", pool.replica(1, 0), 1);
        pool.disconnect(1);
        CHECKS.badState("no copy, though a fresh replica", pool, () -> pool.write(0, 4));
        Pools.does(pool, "c1");
        CHECKS.due("the value before", pool.read(0), 3);
        TestedPool none = Pools.after("l0,1 l1,1");
        CHECKS.badState("no page", none, () -> none.write(0, 4));
    }

    private static void writeMakesStale() {
        CHECKS.sentence("3: (Replicas on disconnected hosts become stale by that.)");
        TestedPool pool = Pools.after("l0,3 l1,3 l2,1 s0,1 s1,1 o0 o2 w0,1");
        CHECKS.due("the written page", pool.replica(0, 0), 2);
        CHECKS.due("another page", pool.replica(0, 1), 1);
        CHECKS.due("a host without a replica", pool.replica(2, 0), 0);
        TestedPool two = Pools.after("l0,1 l1,1 s0,1 o0 l2,1 t5 o1 w0,1");
        CHECKS.due("on two disconnected hosts", two.replica(0, 0) * 10 + two.replica(1, 0), 22);
        CHECKS.due("the copy is fresh", two.replica(2, 0), 1);
    }

    private static void remove() {
        CHECKS.sentence("3: To remove a page that exists: its copies are removed, and it does not exist any more.");
        TestedPool pool = Pools.after("l0,2 l1,2 s0,1 s1,1");
        CHECKS.due("two copies", pool.remove(0), 2);
        CHECKS.due("gone from both", pool.replica(0, 0) + pool.replica(1, 0), 0);
        CHECKS.due("another page stays", pool.copies(1), 0b11);
        CHECKS.due("it does not exist", pool.status(0), NONE);
        CHECKS.badState("any more", pool, () -> pool.remove(0));
        pool.disconnect(0);
        CHECKS.due("one copy", pool.remove(1), 1);
        CHECKS.due("the replica that is no copy stays", pool.replica(0, 1), 2);
        TestedPool none = Pools.after("l0,1 s0,1 o0");
        CHECKS.due("no copy: UNAVAILABLE", none.remove(0), 0);
        CHECKS.due("it does not exist", none.status(0), NONE);
        TestedPool lost = Pools.after("l0,1 s0,1 x0");
        CHECKS.due("no copy: LOST", lost.remove(0), 0);
        CHECKS.due("LOST it does not exist", lost.status(0), NONE);
    }

    private static void lend() {
        CHECKS.sentence("3: To lend: a host that is AWAY and connected becomes LENDING, with a capacity.");
        TestedPool pool = Pools.after("l0,1");
        CHECKS.due("LENDING", pool.mode(0), LENDING);
        CHECKS.badState("LENDING already", pool, () -> pool.lend(0, 2));
        Pools.does(pool, "s0,1 r0,2");
        CHECKS.badState("RECALLED", pool, () -> pool.lend(0, 2));
        Pools.does(pool, "o0 t2");
        CHECKS.badState("AWAY and disconnected", pool, () -> pool.lend(0, 2));
        pool.reconnect(0);
        CHECKS.due("AWAY and connected", pool.lend(0, 20), 20);
        CHECKS.due("with its new capacity", pool.freeRoom(0), 20);
    }

    private static void recall() {
        CHECKS.sentence("3: To recall: a host that is LENDING and connected becomes RECALLED; its deadline is the current time plus a number of seconds.");
        TestedPool pool = Pools.after("l0,1 l1,1 s0,1 t100");
        CHECKS.badState("AWAY", pool, () -> pool.recall(2, 1));
        CHECKS.due("LENDING", pool.recall(0, 1), 1);
        CHECKS.due("RECALLED", pool.mode(0), RECALLED);
        CHECKS.due("a deadline that is near", pool.deadlineIn(0), 1);
        CHECKS.badState("RECALLED already", pool, () -> pool.recall(0, 600));
        pool.recall(1, 600);
        CHECKS.due("a deadline that is far", pool.deadlineIn(1), 600);
        TestedPool cut = Pools.after("l0,1 o0");
        CHECKS.badState("LENDING and disconnected", cut, () -> cut.recall(0, 1));
        TestedPool end = Pools.at(1000000);
        Pools.does(end, "l0,1 s0,1 r0,600");
        CHECKS.due("a deadline beyond the limit of the time", end.deadlineIn(0), 600);
    }

    private static void recallCancels() {
        CHECKS.sentence("3: The transfer is cancelled if it goes to this host.");
        TestedPool to = Pools.after("l0,1 s0,1 l1,1 t2 r1,9");
        CHECKS.due("to it", to.transfer(0), NONE);
        CHECKS.due("no place is taken", to.usedRoom(1), 0);
        TestedPool from = Pools.after("l0,1 s0,1 l1,1 t2 r0,9");
        CHECKS.due("from it", Pools.transfer(from) * 10 + from.transfer(3), 13);
        TestedPool neither = Pools.after("l0,1 s0,1 l1,2 l2,2 t2 s1,1 r2,9");
        CHECKS.due("neither", Pools.transfer(neither) * 10 + neither.transfer(3), 13);
        CHECKS.due("page 1 from host 3 to host 2", Pools.after("l3,1 s1,1 l2,1 t2 r2,9").transfer(0), NONE);
        CHECKS.due("page 1 from host 3 to host 2, host 1", Pools.transfer(Pools.after("l3,1 s1,1 l2,2 l1,2 t2 r1,9")), 132);
    }

    private static void disconnect() {
        CHECKS.sentence("3: To disconnect: a host that is connected and not AWAY becomes disconnected.");
        TestedPool pool = Pools.after("l0,1 l1,1 s0,1 r1,9");
        CHECKS.badState("AWAY", pool, () -> pool.disconnect(2));
        CHECKS.due("LENDING", pool.disconnect(0), 1);
        CHECKS.due("RECALLED", pool.disconnect(1), 1);
        CHECKS.due("disconnected", pool.isConnected(0) || pool.isConnected(1), false);
        CHECKS.badState("disconnected already", pool, () -> pool.disconnect(0));
        pool.pass(9);
        CHECKS.badState("AWAY and disconnected", pool, () -> pool.disconnect(1));
    }

    private static void disconnectCancels() {
        CHECKS.sentence("3: The transfer is cancelled if it comes from this host or goes to it. (disconnect)");
        CHECKS.due("from it", Pools.after("l0,1 s0,1 l1,1 t2 o0").transfer(0), NONE);
        TestedPool to = Pools.after("l0,1 s0,1 l1,1 t2 o1");
        CHECKS.due("to it", to.transfer(0), NONE);
        CHECKS.due("no place is taken", to.usedRoom(1), 0);
        TestedPool neither = Pools.after("l0,1 s0,1 l1,2 l2,2 t2 o2");
        CHECKS.due("neither", Pools.transfer(neither) * 10 + neither.transfer(3), 13);
        CHECKS.due("page 1 from host 3 to host 2", Pools.after("l3,1 s1,1 l2,1 t2 o3").transfer(0), NONE);
        CHECKS.due("page 1 from host 3 to host 2, disconnected", Pools.after("l3,1 s1,1 l2,1 t2 o2").transfer(0), NONE);
        TestedPool page = Pools.after("l3,1 s1,1 l2,2 l1,2 t2 o1");
        CHECKS.due("page 1, host 1", Pools.transfer(page) * 10 + page.transfer(3), 1323);
    }

    private static void reconnect() {
        CHECKS.sentence("3: To reconnect: a host that is disconnected becomes connected.");
        TestedPool pool = Pools.after("l0,1 l1,1 s0,1 r1,3 o0 o1 t3");
        CHECKS.due("LENDING", pool.reconnect(0), 0);
        CHECKS.due("keeps its mode", pool.mode(0), LENDING);
        CHECKS.due("AWAY", pool.reconnect(1), 0);
        CHECKS.due("connected", pool.isConnected(0) && pool.isConnected(1), true);
        CHECKS.due("stays AWAY", pool.mode(1), AWAY);
        CHECKS.badState("connected already", pool, () -> pool.reconnect(0));
        CHECKS.badState("AWAY and connected", pool, () -> pool.reconnect(1));
        TestedPool recalled = Pools.after("l0,1 l1,1 s0,1 r1,9 o1 t8 c1");
        CHECKS.due("RECALLED, before its deadline", recalled.mode(1) * 10 + recalled.deadlineIn(1), 21);
    }

    private static void reconnectRemovesStale() {
        CHECKS.sentence("3: a stale replica is removed");
        TestedPool pool = Pools.after("l0,20 l1,20 s0,1 s29,1 s5,1 s6,1 o0 w0,2 w29,2 d5 s5,2");
        CHECKS.due("three stale ones of four", pool.reconnect(0), 3);
        CHECKS.due("the fresh one stays", pool.replica(0, 6), 1);
        CHECKS.due("the others are gone", pool.replica(0, 0) + pool.replica(0, 5) + pool.replica(0, 29), 0);
        CHECKS.due("their page has its copy", pool.copies(29), 0b10);
        TestedPool gone = Pools.after("l0,1 s0,1 o0 d0");
        CHECKS.due("of a page that does not exist", gone.reconnect(0), 1);
        CHECKS.due("nothing held", gone.usedRoom(0), 0);
        TestedPool lost = Pools.after("l0,1 l1,1 s0,1 o0 w0,2 x1");
        CHECKS.due("of a LOST page too", lost.reconnect(0), 1);
        CHECKS.due("it stays LOST", lost.status(0), RemoteMemoryPool.LOST);
    }

    private static void reconnectRemovesTheThird() {
        CHECKS.sentence("3: a fresh replica is removed if the page has two or more copies on other hosts.");
        TestedPool two = Pools.after("l0,1 l1,1 l2,1 s0,1 o0 t5");
        CHECKS.due("two copies on others", two.copies(0), 0b110);
        CHECKS.due("removed", two.reconnect(0), 1);
        CHECKS.due("two are left", two.copies(0), 0b110);
        TestedPool one = Pools.after("l0,1 l1,1 s0,1 o0");
        CHECKS.due("one copy on another: it stays", one.reconnect(0), 0);
        CHECKS.due("two now", one.copies(0), 0b11);
        TestedPool none = Pools.after("l0,1 l1,1 s0,1 o0 o1");
        CHECKS.due("no copy on others: it stays", none.reconnect(0), 0);
        CHECKS.due("one now", none.copies(0), 0b01);
        CHECKS.due("one on another: the other stays too", none.reconnect(1), 0);
        TestedPool cut = Pools.after("l0,1 l1,1 l2,1 s0,1 o0 t5 o1");
        CHECKS.due("replicas on disconnected hosts do not count", cut.reconnect(0), 0);
        CHECKS.due("two of the three", cut.copies(0), 0b101);
        CHECKS.due("then the third goes", cut.reconnect(1), 1);
        CHECKS.due("from the host that is reconnected", cut.copies(0), 0b101);
        TestedPool apart = Pools.after("l0,1 l3,1 s29,1 o3 l5,1 t5");
        CHECKS.due("copies on hosts before and behind it", apart.copies(29), 0b100001);
        CHECKS.due("count both", apart.reconnect(3), 1);
        CHECKS.due("and stay both", apart.copies(29), 0b100001);
        TestedPool recalled = Pools.after("l0,1 l1,1 l2,1 s0,1 o0 t5 r1,600");
        CHECKS.due("copies on RECALLED hosts count", recalled.reconnect(0), 1);
        TestedPool each = Pools.after("l0,2 l1,2 l2,1 s0,1 s1,1 o0 t5");
        CHECKS.due("each page by itself: one has two, one has one", each.reconnect(0), 1);
        CHECKS.due("which stays", each.copies(1), 0b11);
    }

    private static void crash() {
        CHECKS.sentence("3: To crash: a host that is not AWAY loses all its replicas and becomes AWAY and connected.");
        TestedPool pool = Pools.after("l0,20 l1,20 s0,1 s1,1 s29,1 o0 w1,2");
        CHECKS.badState("AWAY", pool, () -> pool.crash(2));
        CHECKS.due("LENDING and disconnected: fresh and stale ones", pool.crash(0), 3);
        CHECKS.due("AWAY and connected", pool.mode(0) == AWAY && pool.isConnected(0), true);
        CHECKS.due("nothing held", pool.usedRoom(0) + pool.replica(0, 1), 0);
        CHECKS.badState("AWAY already", pool, () -> pool.crash(0));
        CHECKS.due("LENDING and connected", pool.crash(1), 3);
        CHECKS.due("all LOST", pool.countStatus(RemoteMemoryPool.LOST), 3);
        TestedPool recalled = Pools.after("l0,1 l1,1 s0,1 r0,9 o0");
        CHECKS.due("RECALLED and disconnected", recalled.crash(0), 1);
        CHECKS.due("AWAY and connected, without a deadline", recalled.isConnected(0) ? recalled.deadlineIn(0) : 0, NONE);
        TestedPool empty = Pools.after("l0,1");
        CHECKS.due("with nothing to lose", empty.crash(0), 0);
        CHECKS.due("AWAY", empty.mode(0), AWAY);
        TestedPool gone = Pools.after("l0,1 s0,1 r0,1 o0 t1");
        CHECKS.badState("AWAY and disconnected", gone, () -> gone.crash(0));
    }

    private static void crashCancels() {
        CHECKS.sentence("3: The transfer is cancelled if it comes from this host or goes to it. (crash)");
        CHECKS.due("from it", Pools.after("l0,1 s0,1 l1,1 t2 x0").transfer(0), NONE);
        TestedPool to = Pools.after("l0,1 s0,1 l1,1 t2 x1");
        CHECKS.due("to it", to.transfer(0), NONE);
        CHECKS.due("no place is taken", to.usedRoom(1), 0);
        TestedPool neither = Pools.after("l0,1 s0,1 l1,2 l2,2 t2 x2");
        CHECKS.due("neither", Pools.transfer(neither) * 10 + neither.transfer(3), 13);
        CHECKS.due("page 1 from host 3 to host 2", Pools.after("l3,1 s1,1 l2,1 t2 x3").transfer(0), NONE);
        CHECKS.due("page 1 from host 3 to host 2, crashed", Pools.after("l3,1 s1,1 l2,1 t2 x2").transfer(0), NONE);
        TestedPool page = Pools.after("l3,1 s1,1 l2,2 l1,2 t2 x1");
        CHECKS.due("page 1, host 1", Pools.transfer(page) * 10 + page.transfer(3), 1323);
    }

    private static void removalCancels() {
        CHECKS.sentence("3: The transfer is also cancelled if its page is removed.");
        TestedPool page = Pools.after("l0,2 s0,1 s1,1 l1,1 t2 d0");
        CHECKS.due("its page: the next begins", Pools.transfer(page) * 10 + page.transfer(3), 1015);
        page.remove(1);
        CHECKS.due("no next", page.transfer(0), NONE);
        CHECKS.due("no place is taken", page.usedRoom(1), 0);
        TestedPool other = Pools.after("l0,2 s0,1 s1,1 l1,1 t2 d1");
        CHECKS.due("another page", Pools.transfer(other) * 10 + other.transfer(3), 13);
        TestedPool numbers = Pools.after("l0,3 s0,1 s1,1 s3,1 d0 l3,1 t2 d3");
        CHECKS.due("a page with the number of the target", Pools.transfer(numbers) * 10 + numbers.transfer(3), 1033);
        TestedPool again = Pools.after("l0,1 s0,1 l1,1 t2 d0 s0,1");
        CHECKS.due("stored again: it is safe at once", again.transfer(0), NONE);
    }

    private static void settlesFirstByRelease() {
        CHECKS.sentence("3: first each host that is RECALLED and connected and holds no replica becomes AWAY");
        CHECKS.due("recalled with nothing", Pools.after("l0,1 r0,600").mode(0), AWAY);
        CHECKS.due("recalled with nothing, while another host is disconnected", Pools.after("l0,1 o0 l1,1 r1,600").mode(1), AWAY);
        TestedPool one = Pools.after("l0,2 s0,1 s1,1 r0,600 d0");
        CHECKS.due("one replica is left", one.mode(0), RECALLED);
        one.remove(1);
        CHECKS.due("none is left", one.mode(0), AWAY);
        CHECKS.due("it may lend at once", one.lend(0, 3), 3);
        TestedPool cut = Pools.after("l0,1 l1,1 s0,1 r0,600 o0 w0,2");
        CHECKS.due("a stale replica", cut.mode(0), RECALLED);
        cut.reconnect(0);
        CHECKS.due("which goes on reconnecting", cut.mode(0), AWAY);
        TestedPool each = Pools.after("l0,1 l1,1 s0,1 r0,600 r1,600 d0");
        CHECKS.due("both hosts at once", each.mode(0) + each.mode(1), 2 * AWAY);
        TestedPool moved = Pools.after("l0,1 s0,1 l1,1 r0,600 t4");
        CHECKS.due("before the last replica has moved", moved.mode(0), RECALLED);
        moved.pass(1);
        CHECKS.due("when it has", moved.mode(0), AWAY);
        CHECKS.due("a LENDING host without a replica stays", Pools.after("l0,1 l1,1 r1,9").mode(0), LENDING);
    }

    private static void settlesThenByATransfer() {
        CHECKS.sentence("3: After each of these operations the pool settles: then, if there is no transfer, a new transfer is chosen");
        CHECKS.due("after lend", Pools.transfer(Pools.after("l0,1 s0,1 l1,1")), 1);
        CHECKS.due("after recall", Pools.transfer(Pools.after("l0,1 l1,1 l2,1 s0,1 r0,9")), 2);
        CHECKS.due("after disconnect", Pools.transfer(Pools.after("l0,1 l1,1 l2,1 s0,1 o0")), 12);
        CHECKS.due("after reconnect", Pools.transfer(Pools.after("l0,1 s0,1 o0 l1,1 c0")), 1);
        CHECKS.due("after reconnect of the target", Pools.transfer(Pools.after("l0,1 s0,1 l1,1 o1 c1")), 1);
        CHECKS.due("after crash", Pools.transfer(Pools.after("l0,1 l1,1 l2,1 s0,1 x1")), 2);
        CHECKS.due("after remove: room for another page", Pools.transfer(Pools.after("l0,2 l1,1 s0,1 s1,1 d0")), 101);
        TestedPool cancelled = Pools.after("l0,1 s0,1 l1,2 l2,1 t3 x1");
        CHECKS.due("at once after one is cancelled", Pools.transfer(cancelled) * 10 + cancelled.transfer(3), 25);
        TestedPool passed = Pools.after("l0,2 s0,1 s1,1 l1,2 t5");
        CHECKS.due("in the second in which one is completed", Pools.transfer(passed) * 10 + passed.transfer(3), 1015);
    }

    private static void settlesOnlyWithoutATransfer() {
        CHECKS.sentence("3: if there is no transfer");
        TestedPool pool = Pools.after("l0,2 s0,1 s1,1 l1,1 t1 r0,9 l2,20");
        CHECKS.due("a transfer under way stays", Pools.transfer(pool) * 10 + pool.transfer(3), 14);
        pool.pass(4);
        CHECKS.due("then the next one", Pools.transfer(pool), 102);
    }
}
