/** The sentences of the promises 20 to 37, the queries, that name a boundary case, each with a test. */
public final class QueryBoundsTest {
    private static final Checks CHECKS = new Checks();
    private static final int NONE = RemoteMemoryPool.NONE;

    public static void main(String[] args) {
        constants();
        queriesChangeNothing();
        status();
        copies();
        countStatus();
        mode();
        isConnected();
        usedRoom();
        freeRoom();
        deadlineIn();
        replica();
        transfer();
        completedTransfers();
        time();
        lostWithout();
        worstPair();
        lostIn();
        lostInBeyondTheLimit();
        restsIn();
        restsInAtItsEnds();
        savedStates();
        textLength();
        CHECKS.end();
    }

    private static void constants() {
        CHECKS.sentence("NONE = -1; AWAY = 0, LENDING = 1, RECALLED = 2; LOST = -2, UNAVAILABLE = 0, ENDANGERED = 1, SAFE = 2");
        CHECKS.due("NONE", RemoteMemoryPool.NONE, -1);
        CHECKS.due("AWAY", RemoteMemoryPool.AWAY, 0);
        CHECKS.due("LENDING", RemoteMemoryPool.LENDING, 1);
        CHECKS.due("RECALLED", RemoteMemoryPool.RECALLED, 2);
        CHECKS.due("LOST", RemoteMemoryPool.LOST, -2);
        CHECKS.due("UNAVAILABLE", RemoteMemoryPool.UNAVAILABLE, 0);
        CHECKS.due("ENDANGERED", RemoteMemoryPool.ENDANGERED, 1);
        CHECKS.due("SAFE", RemoteMemoryPool.SAFE, 2);
    }

    private static void queriesChangeNothing() {
        CHECKS.sentence("queries change nothing");
        Hidden.PoolCall[] queries = {
            p -> p.status(0), p -> p.copies(0), p -> p.countStatus(1), p -> p.mode(0), p -> p.isConnected(0) ? 1 : 0, p -> p.usedRoom(0),
            p -> p.freeRoom(0), p -> p.deadlineIn(2), p -> p.replica(1, 0), p -> p.transfer(3), TestedPool::completedTransfers,
            TestedPool::time, p -> p.lostWithout(63), TestedPool::worstPair, p -> p.lostIn(600), TestedPool::restsIn,
            TestedPool::savedStates, TestedPool::textLength,
        };
        for (int i = 0; i < queries.length; i++) {
            Hidden.unchanged(CHECKS, "query " + i, Terms6To8Test::busy, queries[i]);
        }
    }

    private static void status() {
        TestedPool pool = Pools.after("l0,2 l1,1 s0,1 s29,1");
        CHECKS.sentence("Promise 20: status: page: 0 to 29");
        CHECKS.due("the first and the last", pool.status(0) * 10 + pool.status(29), 21);
        CHECKS.sentence("Promise 20: Returns SAFE, ENDANGERED, UNAVAILABLE or LOST; NONE if the page does not exist.");
        CHECKS.due("NONE", pool.status(1), NONE);
        CHECKS.due("SAFE", pool.status(0), 2);
        CHECKS.due("ENDANGERED", pool.status(29), 1);
        pool.disconnect(0);
        CHECKS.due("UNAVAILABLE", pool.status(29), 0);
        pool.crash(0);
        CHECKS.due("LOST", pool.status(29), -2);
        pool.remove(29);
        CHECKS.due("NONE again", pool.status(29), NONE);
        pool.disconnect(1);
        pool.remove(0);
        CHECKS.due("NONE, though a stale replica is left", pool.status(0) * 10 + pool.replica(1, 0), -8);
        CHECKS.sentence("Promise 20: Throws IndexOutOfBoundsException if there is no such page number");
        for (int page : Pools.NO_PAGES) {
            CHECKS.outOfBounds("page " + page, pool, () -> pool.status(page));
        }
    }

    private static void copies() {
        TestedPool pool = Pools.after("l0,1 l5,2 s0,1 s29,1");
        CHECKS.sentence("Promise 21: copies: page: 0 to 29");
        CHECKS.due("the first", pool.copies(0), 0b100001);
        CHECKS.due("the last", pool.copies(29), 0b100000);
        CHECKS.sentence("Promise 21: Returns the set of these hosts; bit h is for the host h.");
        CHECKS.due("no page", pool.copies(1), 0);
        pool.disconnect(5);
        CHECKS.due("UNAVAILABLE", pool.copies(29), 0);
        CHECKS.due("host 0 alone", pool.copies(0), 1);
        for (int host = 0; host < 6; host++) {
            CHECKS.due("host " + host, Pools.after("l" + host + ",1 s7,1").copies(7), 1 << host);
        }
        CHECKS.due("not the target of a transfer", Pools.after("l0,1 s0,1 l1,1").copies(0), 1);
        CHECKS.sentence("Promise 21: Throws IndexOutOfBoundsException if there is no such page number");
        for (int page : Pools.NO_PAGES) {
            CHECKS.outOfBounds("page " + page, pool, () -> pool.copies(page));
        }
    }

    private static void countStatus() {
        CHECKS.sentence("Promise 22: Returns the number of pages.");
        TestedPool pool = Pools.after("l0,20 l1,20 l2,20");
        for (int status : new int[] {2, 1, 0, -2}) {
            CHECKS.due("no pages, status " + status, pool.countStatus(status), 0);
        }
        for (int page = 0; page < 30; page++) {
            pool.store(page, 1);
        }
        CHECKS.due("all SAFE", pool.countStatus(2), 30);
        Pools.does(pool, "o0 o1 o2");
        CHECKS.due("all UNAVAILABLE", pool.countStatus(0), 30);
        CHECKS.due("none of another", pool.countStatus(2) + pool.countStatus(1) + pool.countStatus(-2), 0);
        Pools.does(pool, "x0 x1 x2");
        CHECKS.due("all LOST", pool.countStatus(-2), 30);
        TestedPool single = Pools.after("l0,20");
        for (int page = 0; page < 20; page++) {
            single.store(29 - page, 1);
        }
        CHECKS.due("twenty ENDANGERED", single.countStatus(1), 20);
        CHECKS.sentence("Promise 22: Throws IllegalArgumentException if the status is none of these");
        for (int status : new int[] {-1, 3, -3, 4, 254, 258, 65538, Integer.MAX_VALUE, Integer.MIN_VALUE}) {
            CHECKS.badArgument("status " + status, pool, () -> pool.countStatus(status));
        }
    }

    private static void mode() {
        TestedPool pool = Pools.after("l0,1 l5,1 s0,1 r5,2");
        CHECKS.sentence("Promise 23: mode: host: 0 to 5");
        CHECKS.due("the first and the last", pool.mode(0) * 10 + pool.mode(5), 12);
        CHECKS.sentence("Promise 23: Returns AWAY, LENDING or RECALLED.");
        CHECKS.due("AWAY", pool.mode(1), 0);
        Pools.does(pool, "o0 o5");
        CHECKS.due("disconnected", pool.mode(0) * 10 + pool.mode(5), 12);
        pool.pass(2);
        CHECKS.due("AWAY at its deadline", pool.mode(5), 0);
        CHECKS.sentence("Promise 23: Throws IndexOutOfBoundsException if there is no such host");
        for (int host : Pools.NO_HOSTS) {
            CHECKS.outOfBounds("host " + host, pool, () -> pool.mode(host));
        }
    }

    private static void isConnected() {
        TestedPool pool = Pools.after("l0,1 l5,1 o0 o5");
        CHECKS.sentence("Promise 24: isConnected: host: 0 to 5");
        CHECKS.due("the first and the last", pool.isConnected(0) || pool.isConnected(5), false);
        CHECKS.sentence("Promise 24: Returns true if it is connected.");
        CHECKS.due("never disconnected", pool.isConnected(1) && pool.isConnected(4), true);
        Pools.does(pool, "c0 x5");
        CHECKS.due("reconnected, or by a crash", pool.isConnected(0) && pool.isConnected(5), true);
        CHECKS.sentence("Promise 24: Throws IndexOutOfBoundsException if there is no such host");
        for (int host : Pools.NO_HOSTS) {
            CHECKS.outOfBounds("host " + host, pool, () -> pool.isConnected(host) ? 1 : 0);
        }
    }

    private static void usedRoom() {
        TestedPool pool = Pools.after("l0,20 l5,20 s0,1 s1,1");
        CHECKS.sentence("Promise 25: usedRoom: host: 0 to 5");
        CHECKS.due("the first and the last", pool.usedRoom(0) * 10 + pool.usedRoom(5), 22);
        CHECKS.sentence("Promise 25: Returns the used room.");
        CHECKS.due("AWAY", pool.usedRoom(1), 0);
        TestedPool full = Pools.after("l5,1 s29,1 o5 l0,20");
        for (int page = 0; page < 19; page++) {
            full.store(page, 1);
        }
        CHECKS.due("nineteen of twenty", full.usedRoom(0), 19);
        full.reconnect(5);
        CHECKS.due("nineteen and the transfer", full.usedRoom(0), 20);
        CHECKS.due("which comes from host 5", full.usedRoom(5), 1);
        full.pass(5);
        CHECKS.due("twenty", full.usedRoom(0), 20);
        CHECKS.due("the last place for the transfer", Pools.after("l0,1 s0,1 l1,1").usedRoom(1), 1);
        CHECKS.sentence("Promise 25: Throws IndexOutOfBoundsException if there is no such host");
        for (int host : Pools.NO_HOSTS) {
            CHECKS.outOfBounds("host " + host, pool, () -> pool.usedRoom(host));
        }
        TestedPool none = new TestedPool();
        CHECKS.outOfBounds("host -1 while there is no transfer", none, () -> none.usedRoom(-1));
    }

    private static void freeRoom() {
        TestedPool pool = Pools.after("l0,20 l5,1");
        CHECKS.sentence("Promise 26: freeRoom: host: 0 to 5");
        CHECKS.due("the first and the last", pool.freeRoom(0) * 10 + pool.freeRoom(5), 201);
        CHECKS.sentence("Promise 26: Returns the free room.");
        CHECKS.due("AWAY", pool.freeRoom(1), 0);
        pool.store(0, 1);
        CHECKS.due("full", pool.freeRoom(5), 0);
        CHECKS.due("one less", pool.freeRoom(0), 19);
        Pools.does(pool, "o5");
        CHECKS.due("full and disconnected", pool.freeRoom(5), 0);
        CHECKS.sentence("Promise 26: Throws IndexOutOfBoundsException if there is no such host");
        for (int host : Pools.NO_HOSTS) {
            CHECKS.outOfBounds("host " + host, pool, () -> pool.freeRoom(host));
        }
    }

    private static void deadlineIn() {
        TestedPool pool = Pools.after("l0,1 l5,1 s0,1 r0,600 r5,1");
        CHECKS.sentence("Promise 27: deadlineIn: host: 0 to 5");
        CHECKS.due("the first and the last", pool.deadlineIn(0) * 10 + pool.deadlineIn(5), 6001);
        CHECKS.sentence("Promise 27: Returns the number of seconds; NONE if the host is not RECALLED.");
        CHECKS.due("AWAY", pool.deadlineIn(1), NONE);
        CHECKS.due("LENDING", Pools.after("l0,1").deadlineIn(0), NONE);
        CHECKS.due("AWAY at once, for it holds nothing", Pools.after("l0,1 r0,600").deadlineIn(0), NONE);
        pool.pass(1);
        CHECKS.due("past", pool.deadlineIn(5), NONE);
        CHECKS.due("a second less", pool.deadlineIn(0), 599);
        pool.disconnect(0);
        CHECKS.due("disconnected", pool.deadlineIn(0), 599);
        pool.pass(598);
        CHECKS.due("the last second", pool.deadlineIn(0), 1);
        pool.pass(1);
        CHECKS.due("past, disconnected", pool.deadlineIn(0), NONE);
        TestedPool again = Pools.after("l0,1 s0,1 r0,600 x0 l0,1");
        CHECKS.due("LENDING again", again.deadlineIn(0), NONE);
        CHECKS.sentence("Promise 27: Throws IndexOutOfBoundsException if there is no such host");
        for (int host : Pools.NO_HOSTS) {
            CHECKS.outOfBounds("host " + host, pool, () -> pool.deadlineIn(host));
        }
    }

    private static void replica() {
        TestedPool pool = Pools.after("l0,20 l5,20 s0,1 s29,1");
        CHECKS.sentence("Promise 28: replica: host: 0 to 5; page: 0 to 29");
        CHECKS.due("the first of both", pool.replica(0, 0), 1);
        CHECKS.due("the last of both", pool.replica(5, 29), 1);
        CHECKS.sentence("Promise 28: Returns 0 if it holds no replica of the page, 1 if it holds a fresh replica, 2 if it holds a stale replica.");
        CHECKS.due("0 of another page", pool.replica(0, 1), 0);
        CHECKS.due("0 on another host", pool.replica(1, 0), 0);
        pool.disconnect(5);
        CHECKS.due("1 on a disconnected host", pool.replica(5, 0), 1);
        pool.write(0, 1);
        CHECKS.due("2 after a write", pool.replica(5, 0), 2);
        CHECKS.due("1 of a page that is not written", pool.replica(5, 29), 1);
        pool.remove(29);
        CHECKS.due("2 after a removal", pool.replica(5, 29), 2);
        CHECKS.due("0 where the copy was", pool.replica(0, 29), 0);
        CHECKS.due("0 on the target of a transfer", Pools.after("l0,1 s0,1 l1,1").replica(1, 0), 0);
        CHECKS.sentence("Promise 28: Throws IndexOutOfBoundsException if there is no such host or page number");
        for (int host : Pools.NO_HOSTS) {
            CHECKS.outOfBounds("host " + host, pool, () -> pool.replica(host, 0));
        }
        for (int page : Pools.NO_PAGES) {
            CHECKS.outOfBounds("page " + page, pool, () -> pool.replica(5, page));
        }
        CHECKS.outOfBounds("host 5, page 30", pool, () -> pool.replica(5, 30));
        CHECKS.outOfBounds("neither", pool, () -> pool.replica(-1, -1));
    }

    private static void transfer() {
        TestedPool pool = Pools.after("l5,1 s29,1 l4,1 t1");
        CHECKS.sentence("Promise 29: part: 0: the page; 1: the source; 2: the target; 3: the number of seconds until it is completed");
        CHECKS.due("page", pool.transfer(0), 29);
        CHECKS.due("source", pool.transfer(1), 5);
        CHECKS.due("target", pool.transfer(2), 4);
        CHECKS.due("seconds", pool.transfer(3), 4);
        CHECKS.sentence("Promise 29: Returns the part; NONE if there is no transfer.");
        TestedPool none = Pools.after("l5,1 s29,1 l4,1 t5");
        for (int part = 0; part < 4; part++) {
            CHECKS.due("at first, part " + part, new TestedPool().transfer(part), NONE);
            CHECKS.due("after it is completed, part " + part, none.transfer(part), NONE);
            CHECKS.due("after it is cancelled, part " + part, Pools.after("l5,1 s29,1 l4,1 o4").transfer(part), NONE);
        }
        TestedPool longest = Pools.after("l0,1 s0,1");
        longest.setTransferTime(60);
        longest.lend(1, 1);
        CHECKS.due("the most seconds", longest.transfer(3), 60);
        longest.pass(59);
        CHECKS.due("the least", longest.transfer(3), 1);
        CHECKS.sentence("Promise 29: Throws IllegalArgumentException if part is not 0 to 3");
        for (int part : new int[] {-1, 4, 5, -4, 32, 256, 65536, Integer.MAX_VALUE, Integer.MIN_VALUE}) {
            CHECKS.badArgument("part " + part, pool, () -> pool.transfer(part));
            CHECKS.badArgument("part " + part + " of no transfer", none, () -> none.transfer(part));
        }
    }

    private static void completedTransfers() {
        CHECKS.sentence("Promise 30: Returns the number of transfers that have been completed so far (also those by which nothing changed).");
        CHECKS.due("none", new TestedPool().completedTransfers(), 0);
        TestedPool pool = Pools.after("l0,1 l1,1 l2,1 s0,1 o1 t2 c1 t2");
        CHECKS.due("under way", pool.completedTransfers(), 0);
        pool.pass(1);
        CHECKS.due("by which nothing changed", pool.completedTransfers(), 1);
        Pools.does(pool, "r0,9 t5");
        CHECKS.due("a move", pool.completedTransfers(), 2);
        Pools.does(pool, "l0,1 x1 t5");
        CHECKS.due("a copy", pool.completedTransfers(), 3);
        Pools.does(pool, "x0 l0,1 t4 x0");
        CHECKS.due("cancelled ones do not count", pool.completedTransfers(), 3);
        Pools.does(pool, "l1,1");
        CHECKS.due("a transfer is to come", pool.restsIn(), 5);
        CHECKS.due("forecasts do not count it", pool.completedTransfers(), 3);
    }

    private static void time() {
        CHECKS.sentence("Promise 31: Returns the current time.");
        CHECKS.due("at first", new TestedPool().time(), 0);
        CHECKS.due("after a second", Pools.after("t1").time(), 1);
        CHECKS.due("after calls that pass no time", Pools.after("l0,1 s0,1 w0,1 o0 c0 r0,9 x0 d0").time(), 0);
        CHECKS.due("at the limit", Pools.at(1000000).time(), 1000000);
    }

    private static void lostWithout() {
        TestedPool pool = Pools.after("l0,2 l5,2 s0,1 s29,1");
        CHECKS.sentence("Promise 32: hosts: a set of hosts, 0 to 63; bit h is for the host h");
        CHECKS.due("no host", pool.lostWithout(0), 0);
        CHECKS.due("all hosts", pool.lostWithout(63), 2);
        CHECKS.due("host 0", pool.lostWithout(1), 0);
        CHECKS.due("host 5", pool.lostWithout(32), 0);
        CHECKS.due("both", pool.lostWithout(33), 2);
        CHECKS.due("all but host 0", pool.lostWithout(62), 0);
        CHECKS.due("all but host 5", pool.lostWithout(31), 0);
        for (int host = 0; host < 6; host++) {
            for (int set = 0; set < 64; set++) {
                CHECKS.due("bits of " + host + " and " + set, Pools.after("l" + host + ",1 s7,1").lostWithout(set), set >> host & 1);
            }
        }
        CHECKS.sentence("Promise 32: Returns the number of pages that are not LOST now, and all of whose fresh replicas are on these hosts.");
        CHECKS.due("no pages", new TestedPool().lostWithout(63), 0);
        pool.disconnect(5);
        CHECKS.due("a fresh replica on a disconnected host saves it", pool.lostWithout(1), 0);
        CHECKS.due("and is counted", pool.lostWithout(33), 2);
        pool.write(0, 1);
        CHECKS.due("a stale one does not save it", pool.lostWithout(1), 1);
        CHECKS.due("nor does it count", pool.lostWithout(32), 0);
        pool.disconnect(0);
        CHECKS.due("UNAVAILABLE pages", pool.lostWithout(63), 2);
        pool.crash(0);
        CHECKS.due("LOST pages, also with no host", pool.lostWithout(0), 0);
        CHECKS.due("LOST pages, with all hosts", pool.lostWithout(63), 1);
        TestedPool all = Pools.after("l0,20 l1,20 l2,20");
        for (int page = 0; page < 30; page++) {
            all.store(page, 1);
        }
        CHECKS.due("all thirty", all.lostWithout(7), 30);
        CHECKS.due("a transfer that is under way saves none", Pools.after("l0,1 s0,1 l1,1 t4").lostWithout(1), 1);
        CHECKS.sentence("Promise 32: Throws IllegalArgumentException if the set is out of range");
        for (int hosts : new int[] {-1, 64, 65, 127, 128, -64, 256, 65536, Integer.MAX_VALUE, Integer.MIN_VALUE}) {
            CHECKS.badArgument("set " + hosts, pool, () -> pool.lostWithout(hosts));
        }
    }

    private static void worstPair() {
        CHECKS.sentence("Promise 33: Returns 6 * a + b for the hosts a and b, with a less than b, for which lostWithout() of both is greatest;");
        for (int a = 0; a < 6; a++) {
            for (int b = a + 1; b < 6; b++) {
                CHECKS.due("hosts " + a + " and " + b, Pools.after("l" + a + ",1 l" + b + ",1 s0,1").worstPair(), 6 * a + b);
            }
        }
        CHECKS.due("two pages before one", Pools.after("l0,1 l1,1 s0,1 l4,2 l5,2 s1,1 s2,1").worstPair(), 29);
        CHECKS.due("disconnected hosts too", Pools.after("l0,1 l1,1 s0,1 l4,2 l5,2 s1,1 s2,1 o4 o5").worstPair(), 29);
        CHECKS.sentence("Promise 33: of several such pairs the one with the least 6 * a + b.");
        CHECKS.due("no page", new TestedPool().worstPair(), 1);
        CHECKS.due("only LOST pages", Pools.after("l4,1 l5,1 s0,1 x4 x5").worstPair(), 1);
        CHECKS.due("one host, the first: with the next", Pools.after("l0,1 s0,1").worstPair(), 1);
        CHECKS.due("one host, the last: with the first", Pools.after("l5,1 s0,1").worstPair(), 5);
        CHECKS.due("one host between", Pools.after("l3,1 s0,1").worstPair(), 3);
        CHECKS.due("two hosts with a page each", Pools.after("l2,1 s0,1 o2 l3,1 s1,1").worstPair(), 15);
        CHECKS.due("two pairs alike", Pools.after("l4,1 l5,1 s0,1 l1,1 l3,1 s1,1").worstPair(), 9);
    }

    private static void lostIn() {
        TestedPool pool = Pools.after("l0,2 s0,1 s1,1 r0,600");
        CHECKS.sentence("Promise 34: lostIn: seconds: 1 to 600");
        CHECKS.due("the least", pool.lostIn(1), 0);
        CHECKS.due("a second before the deadline", pool.lostIn(599), 0);
        CHECKS.due("the greatest, the deadline", pool.lostIn(600), 2);
        CHECKS.due("the least, the deadline", Pools.after("l0,1 s0,1 r0,1").lostIn(1), 1);
        CHECKS.sentence("Promise 34: Returns the number of pages whose status would be LOST.");
        CHECKS.due("no pages", new TestedPool().lostIn(600), 0);
        TestedPool all = Pools.after("l3,20 l4,20 l5,20");
        for (int page = 0; page < 30; page++) {
            all.store(page, 1);
        }
        Pools.does(all, "r3,7 r4,8 r5,9");
        CHECKS.due("some of thirty", all.lostIn(8), 10);
        CHECKS.due("all thirty", all.lostIn(9), 30);
        CHECKS.due("the last page", Pools.after("l5,1 s29,1 r5,2").lostIn(2), 1);
        CHECKS.due("LOST now", Pools.after("l0,1 s0,1 x0").lostIn(1), 1);
        CHECKS.due("UNAVAILABLE is not LOST", Pools.after("l0,1 s0,1 o0").lostIn(600), 0);
        CHECKS.due("UNAVAILABLE on a RECALLED host will be", Pools.after("l0,1 s0,1 r0,3 o0").lostIn(2) * 10
            + Pools.after("l0,1 s0,1 r0,3 o0").lostIn(3), 1);
        CHECKS.due("saved in the second of the deadline", Pools.after("l0,1 s0,1 r0,5 l1,1").lostIn(600), 0);
        CHECKS.due("not saved a second later", Pools.after("l0,1 s0,1 r0,4 l1,1").lostIn(600), 1);
        CHECKS.sentence("Promise 34: Throws IllegalArgumentException if the number of seconds is out of range");
        for (int seconds : new int[] {0, 601, -1, -600, 65537, 1000000, Integer.MAX_VALUE, Integer.MIN_VALUE}) {
            CHECKS.badArgument("seconds " + seconds, pool, () -> pool.lostIn(seconds));
        }
    }

    private static void lostInBeyondTheLimit() {
        CHECKS.sentence("Promise 34: Counts the pages that would be LOST after some time, if only time passed; the limit of the time is ignored.");
        TestedPool end = Pools.at(1000000);
        Pools.does(end, "l0,2 s0,1 s1,1 r0,600 l1,2");
        CHECKS.due("the deadline is beyond it, the transfers too", end.lostIn(600), 0);
        end.crash(1);
        CHECKS.due("before the deadline", end.lostIn(599), 0);
        CHECKS.due("at the deadline", end.lostIn(600), 2);
        CHECKS.due("the time stays", end.time(), 1000000);
    }

    private static void restsIn() {
        CHECKS.sentence("Promise 35: there is no transfer, and no host is RECALLED.");
        CHECKS.due("at rest: a new pool", new TestedPool().restsIn(), 0);
        CHECKS.due("at rest, with an endangered page", Pools.after("l0,1 s0,1").restsIn(), 0);
        CHECKS.due("at rest, with disconnected hosts", Pools.after("l0,1 l1,1 s0,1 o0 o1").restsIn(), 0);
        CHECKS.due("a transfer, no host RECALLED", Pools.after("l0,1 s0,1 l1,1").restsIn(), 5);
        CHECKS.due("no transfer, a host RECALLED", Pools.after("l0,1 s0,1 r0,3").restsIn(), 3);
        CHECKS.due("no transfer, a host RECALLED and disconnected", Pools.after("l0,1 s0,1 r0,3 o0").restsIn(), 3);
        CHECKS.due("both: the host has moved its page", Pools.after("l0,1 s0,1 r0,30 l1,1").restsIn(), 5);
        CHECKS.due("both: the transfer is longer", Pools.after("l0,1 l1,1 s0,1 l2,1 r0,3").restsIn(), 8);
        CHECKS.due("RECALLED with nothing it is AWAY", Pools.after("l0,1 r0,600").restsIn(), 0);
        CHECKS.sentence("Promise 35: The limit of the time is ignored.");
        TestedPool end = Pools.at(1000000);
        Pools.does(end, "l0,1 s0,1 r0,600");
        CHECKS.due("600 seconds beyond it", end.restsIn(), 600);
        end.lend(1, 1);
        CHECKS.due("a transfer beyond it", end.restsIn(), 5);
        CHECKS.due("the time stays", end.time(), 1000000);
    }

    private static TestedPool minutes(int transfers) {
        TestedPool pool = Pools.after("l0,20");
        for (int page = 0; page < transfers; page++) {
            pool.store(page, 1);
        }
        pool.setTransferTime(60);
        pool.lend(1, 20);
        return pool;
    }

    private static void restsInAtItsEnds() {
        CHECKS.sentence("Promise 35: Returns the smallest number of seconds, 0 to 600, after which this is so; NONE if there is no such number.");
        CHECKS.due("nothing to wait for", minutes(0).restsIn(), 0);
        CHECKS.due("a deadline a second away", Pools.after("l0,1 s0,1 r0,1").restsIn(), 1);
        CHECKS.due("the deadline of the last host", Pools.after("l5,1 s29,1 r5,77").restsIn(), 77);
        CHECKS.due("a deadline 600 away", Pools.after("l0,1 s0,1 r0,600").restsIn(), 600);
        CHECKS.due("the latest of two deadlines", Pools.after("l0,1 l1,1 s0,1 r0,599 r1,600").restsIn(), 600);
        CHECKS.due("ten minutes", minutes(10).restsIn(), 600);
        CHECKS.due("eleven", minutes(11).restsIn(), NONE);
        TestedPool eleven = minutes(11);
        eleven.pass(59);
        CHECKS.due("601 seconds", eleven.restsIn(), NONE);
        eleven.pass(1);
        CHECKS.due("600 seconds", eleven.restsIn(), 600);
        eleven.pass(1);
        CHECKS.due("599 seconds", eleven.restsIn(), 599);
        CHECKS.due("and so it is", eleven.pass(598) * 100 + eleven.restsIn(), 901);
        TestedPool late = Pools.after("l0,1 l1,1 s0,1 l2,1 r0,600 o0 t596 l3,1 x2");
        CHECKS.due("a restoring that ends after a deadline", late.restsIn(), 5);
        CHECKS.due("601 seconds by a restoring", restoredAfterTheDeadline(541).restsIn(), NONE);
        CHECKS.due("600 seconds by a restoring", restoredAfterTheDeadline(540).restsIn(), 600);
    }

    /** Page 0 has copies on host 0, which leaves at the deadline before its page has moved, and on host 1. */
    private static TestedPool restoredAfterTheDeadline(int deadline) {
        TestedPool pool = Pools.after("l0,10 l1,10");
        for (int page = 0; page < 10; page++) {
            pool.store(page, 1);
        }
        pool.setTransferTime(60);
        Pools.does(pool, "r0," + deadline);
        pool.lend(2, 20);
        return pool;
    }

    private static void savedStates() {
        CHECKS.sentence("Promise 36: Returns the number of saved states.");
        TestedPool pool = new TestedPool();
        CHECKS.due("none", pool.savedStates(), 0);
        for (int calls = 1; calls <= 8; calls++) {
            pool.pass(1);
            CHECKS.due("after " + calls, pool.savedStates(), Math.min(calls, 6));
        }
        for (int left = 5; left >= 0; left--) {
            pool.undo();
            CHECKS.due("left", pool.savedStates(), left);
        }
        CHECKS.badState("none is left", pool, pool::undo);
        CHECKS.due("after a refused call", pool.savedStates(), 0);
    }

    private static void textLength() {
        CHECKS.sentence("Promise 37: Returns the length of the text.");
        TestedPool pool = new TestedPool();
        CHECKS.due("empty", pool.textLength(), 0);
        for (int length = 1; length <= 80; length++) {
            pool.appendText(' ');
            CHECKS.due("length", pool.textLength(), length);
        }
        CHECKS.badState("full", pool, () -> pool.appendText(' '));
        CHECKS.due("after a refused call", pool.textLength(), 80);
        pool.clearText();
        CHECKS.due("cleared", pool.textLength(), 0);
    }
}
