/** The sentences of the promises 1 to 19, the calls that change something, that name a boundary case, each with a test. */
public final class CallBoundsTest {
    private static final Checks CHECKS = new Checks();
    private static final int NONE = RemoteMemoryPool.NONE;
    private static final int[] NO_VALUES = {-1, 10000, 65536, 1 << 30, Integer.MAX_VALUE, Integer.MIN_VALUE};
    private static final int[] NO_CAPACITIES = {0, 21, -1, -20, 32, 257, 65537, Integer.MAX_VALUE, Integer.MIN_VALUE};
    private static final int[] NO_SECONDS = {0, 601, -1, -600, 65537, 1000000, Integer.MAX_VALUE, Integer.MIN_VALUE};
    private static final int[] NO_SLOTS = {-1, 2, 3, 31, 32, 33, 64, Integer.MAX_VALUE, Integer.MIN_VALUE};

    public static void main(String[] args) {
        newObject();
        store();
        storeRefuses();
        write();
        writeRefuses();
        read();
        remove();
        lend();
        lendRefuses();
        recall();
        recallRefuses();
        disconnect();
        reconnect();
        crash();
        pass();
        passRefuses();
        setTransferTime();
        appendText();
        clearText();
        errorPosition();
        runText();
        runTextEnds();
        runTextAtTheLimit();
        runTextRefuses();
        undo();
        save();
        restore();
        CHECKS.end();
    }

    private static void newObject() {
        CHECKS.sentence("Promise 1: Creates a pool without pages, at the time 0.");
        TestedPool pool = new TestedPool();
        CHECKS.due("time", pool.time(), 0);
        int pages = 0;
        for (int page = 0; page < 30; page++) {
            pages += pool.status(page) == NONE ? 0 : 1;
        }
        CHECKS.due("pages", pages, 0);
        CHECKS.due("of each status", pool.countStatus(2) + pool.countStatus(1) + pool.countStatus(0) + pool.countStatus(-2), 0);
        TestedPool first = Pools.after("l0,1 s0,1 t600");
        CHECKS.due("also behind another object", new TestedPool().time() + new TestedPool().status(0), NONE);
        CHECKS.due("which keeps its own", first.time() + first.status(0), 601);
    }

    private static void store() {
        CHECKS.sentence("Promise 2: store: page: 0 to 29; value: 0 to 9999");
        TestedPool pool = Pools.after("l0,20 l1,20");
        CHECKS.due("the least of both", pool.store(0, 0), 2);
        CHECKS.due("the greatest of both", pool.store(29, 9999), 2);
        CHECKS.due("their values", pool.read(0) * 10000 + pool.read(29), 9999);
        CHECKS.sentence("Promise 2: Returns the number of copies of the page after the replicas have been placed, 1 or 2.");
        CHECKS.due("one place in all", Pools.after("l3,1").store(5, 1), 1);
        CHECKS.due("one host with many", Pools.after("l3,20").store(5, 1), 1);
        CHECKS.due("two places on two hosts", Pools.after("l3,1 l4,1").store(5, 1), 2);
        CHECKS.due("six hosts", Pools.after("l0,9 l1,9 l2,9 l3,9 l4,9 l5,9").store(5, 1), 2);
        CHECKS.due("two hosts, one disconnected", Pools.after("l3,1 l4,1 o4").store(5, 1), 1);
        CHECKS.due("the last place beside a transfer", Pools.after("l0,1 s0,1 l1,2").store(1, 1), 1);
    }

    private static void storeRefuses() {
        TestedPool pool = Pools.after("l0,1 l1,2 s0,1");
        CHECKS.sentence("Promise 2: Throws IndexOutOfBoundsException if there is no such page number");
        for (int page : Pools.NO_PAGES) {
            CHECKS.outOfBounds("page " + page, pool, () -> pool.store(page, 1));
        }
        CHECKS.sentence("Promise 2: Throws IllegalArgumentException if the value is out of range");
        for (int value : NO_VALUES) {
            CHECKS.badArgument("value " + value, pool, () -> pool.store(1, value));
        }
        CHECKS.sentence("Promise 2: Throws IllegalStateException if the page exists, or if there is no best host for it");
        CHECKS.badState("it exists, and another host has room", pool, () -> pool.store(0, 1));
        CHECKS.due("a best host with room for one", pool.store(1, 1), 1);
        CHECKS.badState("no room", pool, () -> pool.store(2, 1));
        TestedPool taken = Pools.after("l0,1 s0,1 l1,1");
        CHECKS.badState("the only place is kept for a transfer", taken, () -> taken.store(1, 1));
        TestedPool cut = Pools.after("l0,20 o0");
        CHECKS.badState("the only host is disconnected", cut, () -> cut.store(1, 1));
        TestedPool recalled = Pools.after("l0,20 s0,1 r0,9");
        CHECKS.badState("the only host is RECALLED", recalled, () -> recalled.store(1, 1));
    }

    private static void write() {
        CHECKS.sentence("Promise 3: write: page: 0 to 29; value: 0 to 9999");
        TestedPool pool = Pools.after("l0,20 l1,20 s0,5 s29,5");
        CHECKS.due("the least of both", pool.write(0, 0), 2);
        CHECKS.due("the greatest of both", pool.write(29, 9999), 2);
        CHECKS.due("their values", pool.read(0) * 10000 + pool.read(29), 9999);
        CHECKS.sentence("Promise 3: Returns the number of copies that are written.");
        CHECKS.due("one of one", Pools.after("l0,1 s0,1").write(0, 1), 1);
        CHECKS.due("one of two replicas", Pools.after("l0,1 l1,1 s0,1 o0").write(0, 1), 1);
        CHECKS.due("two of two", Pools.after("l0,1 l1,1 s0,1").write(0, 1), 2);
        CHECKS.due("two of three replicas", Pools.after("l0,1 l1,1 l2,1 s0,1 o0 t5").write(0, 1), 2);
        CHECKS.due("not the target of a transfer", Pools.after("l0,1 s0,1 l1,1").write(0, 1), 1);
        CHECKS.due("of the last page, not of the first", Pools.after("l0,2 l1,1 s0,1 s29,1").write(29, 1), 1);
        CHECKS.due("of the first page, not of the last", Pools.after("l0,2 l1,1 s0,1 s29,1").write(0, 1), 2);
    }

    private static void writeRefuses() {
        TestedPool pool = Pools.after("l0,1 l1,1 s0,1");
        CHECKS.sentence("Promise 3: Throws IndexOutOfBoundsException if there is no such page number");
        for (int page : Pools.NO_PAGES) {
            CHECKS.outOfBounds("page " + page, pool, () -> pool.write(page, 1));
        }
        CHECKS.sentence("Promise 3: Throws IllegalArgumentException if the value is out of range");
        for (int value : NO_VALUES) {
            CHECKS.badArgument("value " + value, pool, () -> pool.write(0, value));
        }
        CHECKS.sentence("Promise 3: Throws IllegalStateException if the page does not exist or has no copy");
        CHECKS.badState("it does not exist", pool, () -> pool.write(1, 1));
        Pools.does(pool, "o0 o1");
        CHECKS.badState("UNAVAILABLE", pool, () -> pool.write(0, 1));
        Pools.does(pool, "x0 x1");
        CHECKS.badState("LOST", pool, () -> pool.write(0, 1));
        pool.remove(0);
        CHECKS.badState("removed", pool, () -> pool.write(0, 1));
    }

    private static void read() {
        TestedPool pool = Pools.after("l0,2 l1,2 s0,0 s29,9999");
        CHECKS.sentence("Promise 4: read: page: 0 to 29");
        CHECKS.due("the least", pool.read(0), 0);
        CHECKS.due("the greatest", pool.read(29), 9999);
        CHECKS.sentence("Promise 4: Reads a page; nothing is changed.");
        Hidden.unchanged(CHECKS, "read", Terms6To8Test::busy, p -> p.read(0));
        CHECKS.sentence("Promise 4: Throws IndexOutOfBoundsException if there is no such page number");
        for (int page : Pools.NO_PAGES) {
            CHECKS.outOfBounds("page " + page, pool, () -> pool.read(page));
        }
        CHECKS.sentence("Promise 4: Throws IllegalStateException if the page does not exist or has no copy");
        CHECKS.badState("it does not exist", pool, () -> pool.read(1));
        pool.disconnect(0);
        CHECKS.due("one copy", pool.read(29), 9999);
        pool.disconnect(1);
        CHECKS.badState("UNAVAILABLE", pool, () -> pool.read(29));
        Pools.does(pool, "x0 x1");
        CHECKS.badState("LOST", pool, () -> pool.read(29));
        pool.remove(29);
        CHECKS.badState("removed", pool, () -> pool.read(29));
        CHECKS.due("on a RECALLED host", Pools.after("l0,1 s0,7 r0,9").read(0), 7);
    }

    private static void remove() {
        TestedPool pool = Pools.after("l0,4 l1,4 s0,1 s29,1 s5,1 s6,1");
        CHECKS.sentence("Promise 5: remove: page: 0 to 29");
        CHECKS.due("the least", pool.remove(0), 2);
        CHECKS.due("the greatest", pool.remove(29), 2);
        CHECKS.due("those between stay", pool.countStatus(2), 2);
        CHECKS.sentence("Promise 5: Returns the number of copies that are removed.");
        pool.disconnect(0);
        CHECKS.due("one copy of two replicas", pool.remove(5), 1);
        pool.disconnect(1);
        CHECKS.due("none of two replicas", pool.remove(6), 0);
        CHECKS.due("none of a LOST page", Pools.after("l0,1 s0,1 x0").remove(0), 0);
        CHECKS.due("two of three replicas", Pools.after("l0,1 l1,1 l2,1 s0,1 o0 t5").remove(0), 2);
        CHECKS.sentence("Promise 5: Throws IndexOutOfBoundsException if there is no such page number");
        for (int page : Pools.NO_PAGES) {
            CHECKS.outOfBounds("page " + page, pool, () -> pool.remove(page));
        }
        CHECKS.sentence("Promise 5: Throws IllegalStateException if the page does not exist");
        CHECKS.badState("never stored", pool, () -> pool.remove(1));
        CHECKS.badState("removed, though stale replicas are left", pool, () -> pool.remove(5));
    }

    private static void lend() {
        CHECKS.sentence("Promise 6: lend: host: 0 to 5; capacity: 1 to 20");
        TestedPool pool = new TestedPool();
        CHECKS.due("the least of both", pool.lend(0, 1), 1);
        CHECKS.due("the greatest of both", pool.lend(5, 20), 21);
        CHECKS.due("their room", pool.freeRoom(0) * 100 + pool.freeRoom(5), 120);
        CHECKS.sentence("Promise 6: Returns the sum of the free room of all hosts, before the pool settles.");
        CHECKS.due("all hosts at their greatest", Pools.does(new TestedPool(), "l0,20 l1,20 l2,20 l3,20 l4,20 l5,20"), 120);
        CHECKS.due("before a transfer takes a place", Pools.after("l0,1 s0,1").lend(1, 1), 1);
        CHECKS.due("after one has taken it", Pools.after("l0,1 s0,1 l1,1").lend(2, 1), 1);
        CHECKS.due("full hosts", Pools.after("l0,1 l1,1 s0,1").lend(2, 7), 7);
        CHECKS.due("RECALLED and disconnected hosts", Pools.after("l0,9 l1,9 s0,1 o0 r1,9").lend(2, 7), 7);
    }

    private static void lendRefuses() {
        TestedPool pool = Pools.after("l0,1 l1,1 s0,1 r1,3");
        CHECKS.sentence("Promise 6: Throws IndexOutOfBoundsException if there is no such host");
        for (int host : Pools.NO_HOSTS) {
            CHECKS.outOfBounds("host " + host, pool, () -> pool.lend(host, 1));
        }
        CHECKS.sentence("Promise 6: Throws IllegalArgumentException if the capacity is out of range");
        for (int capacity : NO_CAPACITIES) {
            CHECKS.badArgument("capacity " + capacity, pool, () -> pool.lend(2, capacity));
        }
        CHECKS.sentence("Promise 6: Throws IllegalStateException if the host is not AWAY, or if it is disconnected");
        CHECKS.badState("LENDING", pool, () -> pool.lend(0, 1));
        CHECKS.badState("RECALLED", pool, () -> pool.lend(1, 1));
        Pools.does(pool, "o0 o1");
        CHECKS.badState("LENDING and disconnected", pool, () -> pool.lend(0, 1));
        CHECKS.badState("RECALLED and disconnected", pool, () -> pool.lend(1, 1));
        pool.pass(3);
        CHECKS.badState("AWAY and disconnected", pool, () -> pool.lend(1, 1));
        pool.reconnect(1);
        CHECKS.due("AWAY and connected", pool.lend(1, 1), 1);
    }

    private static void recall() {
        CHECKS.sentence("Promise 7: recall: host: 0 to 5; seconds: 1 to 600");
        TestedPool pool = Pools.after("l0,1 l5,1 s0,1");
        CHECKS.due("the least of both", pool.recall(0, 1), 1);
        CHECKS.due("the greatest of both", pool.recall(5, 600), 1);
        CHECKS.due("their deadlines", pool.deadlineIn(0) * 1000 + pool.deadlineIn(5), 1600);
        CHECKS.sentence("Promise 7: Returns the number of replicas that the host holds.");
        CHECKS.due("none", Pools.after("l0,20").recall(0, 9), 0);
        CHECKS.due("none, though it is the target of a transfer", Pools.after("l0,1 s0,1 l1,1").recall(1, 9), 0);
        CHECKS.due("one, and the target", Pools.after("l0,2 s0,1 s1,1 l1,2 t5").recall(1, 9), 1);
        TestedPool full = Pools.after("l0,20");
        for (int page = 0; page < 20; page++) {
            full.store(page, 1);
        }
        CHECKS.due("twenty", full.recall(0, 9), 20);
    }

    private static void recallRefuses() {
        TestedPool pool = Pools.after("l0,1 l1,1 s0,1 o1");
        CHECKS.sentence("Promise 7: Throws IndexOutOfBoundsException if there is no such host");
        for (int host : Pools.NO_HOSTS) {
            CHECKS.outOfBounds("host " + host, pool, () -> pool.recall(host, 1));
        }
        CHECKS.sentence("Promise 7: Throws IllegalArgumentException if the number of seconds is out of range");
        for (int seconds : NO_SECONDS) {
            CHECKS.badArgument("seconds " + seconds, pool, () -> pool.recall(0, seconds));
        }
        CHECKS.sentence("Promise 7: Throws IllegalStateException if the host is not LENDING, or if it is disconnected");
        CHECKS.badState("AWAY", pool, () -> pool.recall(2, 1));
        CHECKS.badState("LENDING and disconnected", pool, () -> pool.recall(1, 1));
        pool.recall(0, 3);
        CHECKS.badState("RECALLED", pool, () -> pool.recall(0, 600));
        pool.disconnect(0);
        CHECKS.badState("RECALLED and disconnected", pool, () -> pool.recall(0, 600));
        pool.pass(3);
        CHECKS.badState("AWAY and disconnected", pool, () -> pool.recall(0, 600));
    }

    private static void disconnect() {
        TestedPool pool = Pools.after("l0,2 l5,2 s0,1 s1,1 l1,1 r5,3");
        CHECKS.sentence("Promise 8: disconnect: host: 0 to 5");
        TestedPool ends = Pools.after("l0,1 l3,1 l5,1 o0 o5");
        CHECKS.due("the first and the last, no other", ends.isConnected(0) || ends.isConnected(5) || !ends.isConnected(3), false);
        CHECKS.sentence("Promise 8: Returns the number of replicas that the host holds.");
        CHECKS.due("host 0", pool.disconnect(0), 2);
        CHECKS.due("host 5, which is RECALLED", pool.disconnect(5), 2);
        CHECKS.due("none", pool.disconnect(1), 0);
        CHECKS.due("none, though it is the target of a transfer", Pools.after("l0,1 s0,1 l1,1").disconnect(1), 0);
        CHECKS.due("one that has moved", Pools.after("l0,1 s0,1 l1,1 r0,9 t5").disconnect(1), 1);
        CHECKS.sentence("Promise 8: Throws IndexOutOfBoundsException if there is no such host");
        for (int host : Pools.NO_HOSTS) {
            CHECKS.outOfBounds("host " + host, pool, () -> pool.disconnect(host));
        }
        CHECKS.sentence("Promise 8: Throws IllegalStateException if the host is AWAY, or if it is disconnected");
        CHECKS.badState("AWAY", pool, () -> pool.disconnect(2));
        CHECKS.badState("LENDING and disconnected", pool, () -> pool.disconnect(0));
        CHECKS.badState("RECALLED and disconnected", pool, () -> pool.disconnect(5));
        pool.pass(3);
        CHECKS.badState("AWAY and disconnected", pool, () -> pool.disconnect(5));
        pool.reconnect(0);
        CHECKS.due("connected again", pool.disconnect(0), 2);
    }

    private static void reconnect() {
        TestedPool pool = Pools.after("l0,3 l5,3 s0,1 s1,1 s29,1 o0 w0,1 d29");
        CHECKS.sentence("Promise 9: reconnect: host: 0 to 5");
        TestedPool ends = Pools.after("l0,1 l3,1 l5,1 o0 o3 o5 c0 c5");
        CHECKS.due("the first and the last, no other", ends.isConnected(0) && ends.isConnected(5) && !ends.isConnected(3), true);
        CHECKS.sentence("Promise 9: Returns the number of replicas that are removed by that.");
        CHECKS.due("two of three", pool.reconnect(0), 2);
        pool.disconnect(5);
        CHECKS.due("none of two", pool.reconnect(5), 0);
        CHECKS.due("none, for it holds nothing", Pools.after("l5,1 o5").reconnect(5), 0);
        CHECKS.due("none of a page with two copies that it does not hold", Pools.after("l0,1 l1,1 s0,1 l5,1 o5").reconnect(5), 0);
        CHECKS.due("one stale and one too many", Pools.after("l0,2 l1,2 l2,1 s0,1 s1,1 o0 t5 w1,1").reconnect(0), 2);
        TestedPool all = Pools.after("l0,20");
        for (int page = 0; page < 20; page++) {
            all.store(page, 1);
        }
        all.disconnect(0);
        for (int page = 0; page < 20; page++) {
            all.remove(page);
        }
        CHECKS.due("all twenty", all.reconnect(0), 20);
        CHECKS.sentence("Promise 9: Throws IndexOutOfBoundsException if there is no such host");
        for (int host : Pools.NO_HOSTS) {
            CHECKS.outOfBounds("host " + host, pool, () -> pool.reconnect(host));
        }
        CHECKS.sentence("Promise 9: Throws IllegalStateException if the host is connected");
        CHECKS.badState("LENDING", pool, () -> pool.reconnect(0));
        CHECKS.badState("AWAY", pool, () -> pool.reconnect(1));
        pool.recall(0, 9);
        CHECKS.badState("RECALLED", pool, () -> pool.reconnect(0));
    }

    private static void crash() {
        TestedPool pool = Pools.after("l0,3 l5,3 s0,1 s1,1 s29,1 o0 w0,1 d29 r5,9");
        CHECKS.sentence("Promise 10: crash: host: 0 to 5");
        TestedPool ends = Pools.after("l0,1 l3,1 l5,1 x0 x5");
        CHECKS.due("the first and the last, no other", ends.mode(0) * 100 + ends.mode(3) * 10 + ends.mode(5), 10);
        CHECKS.sentence("Promise 10: Returns the number of replicas that are removed by that.");
        CHECKS.due("one fresh and two stale ones, LENDING and disconnected", pool.crash(0), 3);
        CHECKS.due("two, RECALLED", pool.crash(5), 2);
        CHECKS.due("none", Pools.after("l0,20").crash(0), 0);
        CHECKS.due("none, though it is the target of a transfer", Pools.after("l0,1 s0,1 l1,1").crash(1), 0);
        CHECKS.sentence("Promise 10: Throws IndexOutOfBoundsException if there is no such host");
        for (int host : Pools.NO_HOSTS) {
            CHECKS.outOfBounds("host " + host, pool, () -> pool.crash(host));
        }
        CHECKS.sentence("Promise 10: Throws IllegalStateException if the host is AWAY");
        CHECKS.badState("never LENDING", pool, () -> pool.crash(1));
        CHECKS.badState("crashed already", pool, () -> pool.crash(0));
        TestedPool gone = Pools.after("l0,1 s0,1 r0,2 o0 t2");
        CHECKS.badState("AWAY and disconnected", gone, () -> gone.crash(0));
        CHECKS.due("and stays disconnected", gone.isConnected(0), false);
    }

    private static void pass() {
        CHECKS.sentence("Promise 11: pass: seconds: 1 to 600");
        TestedPool pool = new TestedPool();
        pool.pass(1);
        CHECKS.due("the least", pool.time(), 1);
        pool.pass(600);
        CHECKS.due("the greatest", pool.time(), 601);
        CHECKS.sentence("Promise 11: Returns the number of transfers that are completed, also those by which nothing changes.");
        CHECKS.due("none", new TestedPool().pass(600), 0);
        CHECKS.due("one by which nothing changes", Pools.after("l0,1 l1,1 l2,1 s0,1 o1 t2 c1").pass(3), 1);
        CHECKS.due("none, for it is cancelled by a deadline", Pools.after("l0,1 s0,1 r0,4 l1,1").pass(600), 0);
        TestedPool each = Pools.after("l0,20");
        for (int page = 0; page < 20; page++) {
            each.store(page, 1);
        }
        each.setTransferTime(1);
        each.lend(1, 20);
        CHECKS.due("one each second", each.pass(19), 19);
        CHECKS.due("the last", each.pass(600), 1);
        CHECKS.due("none by a later call", each.pass(1), 0);
        CHECKS.sentence("Promise 11: Undoable, as one call.");
        TestedPool undone = Pools.after("l0,2 s0,1 s1,1 l1,2");
        String before = Observation.of(undone);
        undone.pass(600);
        CHECKS.due("one state", undone.undo(), 4);
        CHECKS.due("all of it", Observation.of(undone), before);
    }

    private static void passRefuses() {
        TestedPool pool = Pools.after("l0,1 s0,1 l1,1");
        CHECKS.sentence("Promise 11: Throws IllegalArgumentException if the number of seconds is out of range");
        for (int seconds : NO_SECONDS) {
            CHECKS.badArgument("seconds " + seconds, pool, () -> pool.pass(seconds));
        }
        CHECKS.sentence("Promise 11: Throws IllegalStateException if the current time would become greater than 1000000");
        TestedPool end = Pools.at(999399);
        CHECKS.due("600 seconds fit", end.pass(600), 0);
        CHECKS.badState("two, where one is left", end, () -> end.pass(2));
        CHECKS.badState("600, where one is left", end, () -> end.pass(600));
        CHECKS.due("the last second", end.pass(1), 0);
        CHECKS.due("the limit", end.time(), 1000000);
        CHECKS.badState("one more", end, () -> end.pass(1));
        end.undo();
        CHECKS.due("back from the limit", end.time(), 999999);
        Pools.does(end, "l0,1 s0,1 r0,1");
        CHECKS.due("a deadline at the limit", end.pass(1) + end.mode(0), 0);
        TestedPool due = Pools.at(999995);
        Pools.does(due, "l0,1 s0,1 l1,1");
        CHECKS.due("a transfer at the limit", due.pass(5), 1);
        CHECKS.due("completed", due.status(0), RemoteMemoryPool.SAFE);
    }

    private static void setTransferTime() {
        CHECKS.sentence("Promise 12: setTransferTime: seconds: 1 to 60");
        TestedPool pool = new TestedPool();
        for (int seconds = 1; seconds <= 60; seconds++) {
            CHECKS.due("seconds " + seconds, pool.setTransferTime(seconds), seconds == 1 ? 5 : seconds - 1);
        }
        CHECKS.sentence("Promise 12: Returns the previous transfer time.");
        pool = new TestedPool();
        CHECKS.due("at first", pool.setTransferTime(1), 5);
        CHECKS.due("the least", pool.setTransferTime(60), 1);
        CHECKS.due("the greatest", pool.setTransferTime(60), 60);
        CHECKS.due("the same again", pool.setTransferTime(5), 60);
        CHECKS.sentence("Promise 12: Undoable.");
        pool.undo();
        CHECKS.due("undone", pool.setTransferTime(7), 60);
        CHECKS.sentence("Promise 12: Throws IllegalArgumentException if the number of seconds is out of range");
        TestedPool kept = pool;
        for (int seconds : new int[] {0, 61, -1, -60, 600, 65537, Integer.MAX_VALUE, Integer.MIN_VALUE}) {
            CHECKS.badArgument("seconds " + seconds, kept, () -> kept.setTransferTime(seconds));
        }
        CHECKS.due("none of them is set", kept.setTransferTime(1), 7);
    }

    private static void appendText() {
        CHECKS.sentence("Promise 13: character: a character code, 32 to 126");
        for (int character = 32; character <= 126; character++) {
            CHECKS.due("character " + character, new TestedPool().appendText(character), 1);
        }
        CHECKS.sentence("Promise 13: Returns the length of the text after the call.");
        TestedPool pool = new TestedPool();
        for (int length = 1; length <= 80; length++) {
            CHECKS.due("length", pool.appendText('t'), length);
        }
        CHECKS.sentence("Promise 13: Throws IllegalArgumentException if the character code is out of range");
        TestedPool some = Pools.withText("d");
        for (int character : new int[] {31, 127, 0, -1, 128, 255, 256 + 's', 65536 + 's', -65536 + 's', Integer.MAX_VALUE, Integer.MIN_VALUE + 's'}) {
            CHECKS.badArgument("character " + character, some, () -> some.appendText(character));
        }
        some.appendText('7');
        CHECKS.due("nothing is between the others", some.errorPosition(), NONE);
        CHECKS.sentence("Promise 13: Throws IllegalStateException if the text has 80 characters");
        CHECKS.badState("80 characters", pool, () -> pool.appendText('t'));
        CHECKS.badState("and again", pool, () -> pool.appendText(32));
        pool.clearText();
        CHECKS.due("empty it has room", pool.appendText('t'), 1);
        CHECKS.due("79 have room for one", Pools.withText("t1;".repeat(26) + "t").appendText('1'), 80);
    }

    private static void clearText() {
        CHECKS.sentence("Promise 14: Empties the text buffer. Returns the length of the text before the call.");
        TestedPool pool = new TestedPool();
        CHECKS.due("empty", pool.clearText(), 0);
        Pools.put(pool, "s".repeat(80));
        CHECKS.due("full", pool.clearText(), 80);
        CHECKS.due("empty by that", pool.clearText() + pool.textLength(), 0);
        CHECKS.due("no text", pool.errorPosition(), 0);
        pool.appendText('t');
        CHECKS.due("one", pool.clearText(), 1);
        Pools.put(pool, "t5");
        CHECKS.due("a shorter text has nothing of the longer", pool.errorPosition(), NONE);
        CHECKS.due("and is run alone", pool.runText() * 10 + pool.time(), 15);
        Hidden.unchanged(CHECKS, "clearText of an empty text", () -> Pools.after("l0,1 s0,1"), TestedPool::clearText);
    }

    private static void errorPosition() {
        CHECKS.sentence("Promise 15: Returns NONE if the text is valid, otherwise its error position.");
        CHECKS.due("valid", Pools.withText("s0,0").errorPosition(), -1);
        CHECKS.due("valid, full", Pools.withText("t1;".repeat(26) + "x5").errorPosition(), -1);
        CHECKS.due("valid, though no host lends", Pools.withText("s0,0;s0,0").errorPosition(), -1);
        CHECKS.due("the first sign", Pools.withText("?").errorPosition(), 0);
        CHECKS.due("the last sign of a full text", Pools.withText("t1;".repeat(26) + "x6").errorPosition(), 79);
        CHECKS.due("behind a full text", Pools.withText("t1;".repeat(26) + "s5").errorPosition(), 80);
        CHECKS.due("no text", new TestedPool().errorPosition(), 0);
        CHECKS.sentence("Promise 15: Checks the text.");
        Hidden.unchanged(CHECKS, "a valid text", Terms6To8Test::busy, TestedPool::errorPosition);
        Hidden.unchanged(CHECKS, "half a text", () -> Pools.withText("l0,1;t"), TestedPool::errorPosition);
    }

    private static void runText() {
        CHECKS.sentence("Promise 16: Executes the commands of the text in their order, as the methods do.");
        TestedPool pool = Pools.withText("l0,20;l5,20;s0,0;s29,9999;w0,9999;r0,600;o5;c5;d29;l4,1;x4;t599");
        CHECKS.due("all, with numbers at their ends", pool.runText(), 12);
        CHECKS.due("time", pool.time(), 599);
        TestedPool calls = Pools.after("l0,20 l5,20 s0,0 s29,9999 w0,9999 r0,600 o5 c5 d29 l4,1 x4 t599");
        for (int i = 0; i < 6; i++) {
            pool.setTransferTime(5);
            calls.setTransferTime(5);
        }
        Pools.put(calls, "l0,20;l5,20;s0,0;s29,9999;w0,9999;r0,600;o5;c5;d29;l4,1;x4;t599");
        CHECKS.due("as the calls", Observation.of(pool), Observation.of(calls));
        CHECKS.due("one command", Pools.withText("l5,1").runText(), 1);
        CHECKS.due("27 commands", Pools.withText("t1;".repeat(26) + "t1").runText(), 27);
        CHECKS.sentence("Promise 16: The text stays in the buffer.");
        TestedPool again = Pools.withText("t600");
        CHECKS.due("twice", again.runText() + again.runText() + again.textLength(), 6);
        CHECKS.due("time", again.time(), 1200);
        CHECKS.sentence("Promise 16: Undoable, as one call, also if no command is executed.");
        CHECKS.due("a state for each run", again.savedStates(), 2);
        TestedPool none = Pools.withText("x0;t1");
        CHECKS.due("none is executed", none.runText() * 10 + none.savedStates(), 1);
        TestedPool many = Pools.withText("l0,9;s0,1;s1,1;s2,1;l1,9;t7;x0;o1;c1");
        many.runText();
        CHECKS.due("nine commands, one state", many.undo(), 0);
        CHECKS.due("all undone", Observation.of(many), Observation.of(Pools.withText("l0,9;s0,1;s1,1;s2,1;l1,9;t7;x0;o1;c1")));
    }

    private static void runTextEnds() {
        CHECKS.sentence("Promise 16: Execution ends before the first command for which the method would throw an exception.");
        String start = "l0,2;l1,2;s0,1;r1,50;o1;";
        String[] refused = {
            "s0,1", "s1,1;s2,1;s3,1", "w1,1", "d1", "l0,1", "l1,1", "r1,1", "r2,1", "o1", "o2", "c0", "c2", "x2", "x5",
        };
        for (String text : refused) {
            TestedPool pool = Pools.withText(start + text + ";t9");
            int done = text.length() > 5 ? 6 : 5;
            CHECKS.due(text, pool.runText(), done);
            CHECKS.due(text + ": nothing behind it", pool.time(), 0);
            CHECKS.due(text + ": all before it", pool.isConnected(1), false);
            CHECKS.due(text + ": one state", pool.savedStates(), 1);
        }
        TestedPool cut = Pools.withText("l0,2;s0,1;o0;w0,2;t9");
        CHECKS.due("a write without a copy", cut.runText(), 3);
        TestedPool first = Pools.withText("c0;t9");
        CHECKS.due("the first", first.runText(), 0);
        TestedPool last = Pools.withText("t9;c0");
        CHECKS.due("the last", last.runText(), 1);
        CHECKS.sentence("Promise 16: Returns the number of commands that are executed.");
        CHECKS.due("twice the same", Pools.withText("l0,1;l0,1;l1,1").runText(), 1);
    }

    private static void runTextAtTheLimit() {
        CHECKS.sentence("Promise 16: Execution ends before the first command for which the method would throw an exception. (the limit of the time)");
        TestedPool pool = Pools.at(999390);
        Pools.put(pool, "t600;t10;t1;l0,1");
        CHECKS.due("to the limit and no second more", pool.runText(), 2);
        CHECKS.due("time", pool.time(), 1000000);
        CHECKS.due("nothing behind it", pool.mode(0), RemoteMemoryPool.AWAY);
        Pools.put(pool, "l0,1;t1");
        CHECKS.due("at the limit", pool.runText(), 1);
        CHECKS.due("time", pool.time(), 1000000);
        TestedPool far = Pools.at(999999);
        Pools.put(far, "t600");
        CHECKS.due("far beyond", far.runText() + far.time(), 999999);
    }

    private static void runTextRefuses() {
        CHECKS.sentence("Promise 16: Throws IllegalStateException if the text is not valid");
        for (String text : new String[] {"", "l0,1;", "l0,1;s", "l0,1;t601", "l0,1;;t1", "l0,1 ", "l0,21", "t1;".repeat(26) + "t0"}) {
            Hidden.unchanged(CHECKS, "'" + text + "'", () -> Pools.withText(text), IllegalStateException.class, TestedPool::runText);
        }
    }

    private static void undo() {
        CHECKS.sentence("Promise 17: Restores the state that was saved last, and removes it from the saved states.");
        TestedPool pool = Pools.after("l0,1 s0,1 t1 t2 t3 t4");
        CHECKS.sentence("Promise 17: Returns the number of saved states that remain.");
        CHECKS.due("five", pool.undo() * 100 + pool.time(), 506);
        CHECKS.due("four, three, two", pool.undo() * 100 + pool.undo() * 10 + pool.undo(), 432);
        CHECKS.due("the page is there", pool.read(0), 1);
        CHECKS.due("one", pool.undo(), 1);
        CHECKS.due("the page is not", pool.status(0), NONE);
        CHECKS.due("none", pool.undo(), 0);
        CHECKS.due("a new pool", Observation.of(pool), Observation.of(new TestedPool()));
        CHECKS.sentence("Promise 17: Throws IllegalStateException if there is no saved state");
        CHECKS.badState("all are undone", pool, pool::undo);
        TestedPool fresh = new TestedPool();
        CHECKS.badState("a new object", fresh, fresh::undo);
        fresh.appendText('t');
        fresh.save(0);
        CHECKS.badState("after calls that are not undoable", fresh, fresh::undo);
        fresh.restore(0);
        CHECKS.due("after one that is", fresh.undo(), 0);
    }

    private static void save() {
        CHECKS.sentence("Promise 18: save: slot: 0 or 1");
        TestedPool ends = Pools.after("t1");
        ends.save(0);
        ends.pass(1);
        ends.save(1);
        CHECKS.due("the first and the last", ends.restore(0) * 10 + ends.restore(1), 12);
        CHECKS.sentence("Promise 18: Returns the current time.");
        TestedPool pool = new TestedPool();
        CHECKS.due("slot 0 at the time 0", pool.save(0), 0);
        pool.pass(600);
        CHECKS.due("slot 1 at the time 600", pool.save(1), 600);
        CHECKS.due("at the limit", Pools.at(1000000).save(1), 1000000);
        CHECKS.sentence("Promise 18: Copies the state into a slot and replaces what the slot held.");
        pool.pass(1);
        pool.save(0);
        pool.pass(1);
        CHECKS.due("replaced", pool.restore(0), 601);
        CHECKS.due("the other slot is not", pool.restore(1), 600);
        TestedPool copied = Pools.after("l0,1 s0,7");
        copied.save(0);
        Pools.does(copied, "w0,8 d0 x0");
        copied.restore(0);
        CHECKS.due("a copy, which later calls do not change", copied.read(0) * 10 + copied.mode(0), 71);
        CHECKS.sentence("Promise 18: Throws IndexOutOfBoundsException if there is no such slot");
        for (int slot : NO_SLOTS) {
            CHECKS.outOfBounds("slot " + slot, pool, () -> pool.save(slot));
        }
        TestedPool none = new TestedPool();
        CHECKS.outOfBounds("slot 32 is not slot 0", none, () -> none.save(32));
        CHECKS.badState("which is empty", none, () -> none.restore(0));
    }

    private static void restore() {
        CHECKS.sentence("Promise 19: restore: slot: 0 or 1");
        TestedPool pool = Pools.after("t7");
        pool.save(1);
        Pools.does(pool, "l0,1 s0,5 t1");
        pool.save(0);
        pool.restore(1);
        CHECKS.due("the last", pool.status(0), NONE);
        pool.restore(0);
        CHECKS.due("the first", pool.read(0), 5);
        pool.pass(600);
        CHECKS.sentence("Promise 19: Returns the current time after the call.");
        CHECKS.due("slot 0", pool.restore(0), 8);
        CHECKS.due("slot 1", pool.restore(1), 7);
        CHECKS.sentence("Promise 19: Replaces the state by the one in a slot; the slot keeps its copy. Undoable.");
        CHECKS.due("no page", pool.status(0), NONE);
        CHECKS.due("undone", pool.undo() * 10 + pool.read(0), 55);
        pool.write(0, 6);
        pool.restore(0);
        CHECKS.due("a copy that calls behind the first restore do not change", pool.read(0), 5);
        pool.write(0, 7);
        pool.undo();
        CHECKS.due("nor the undo of a call", pool.restore(0) * 10 + pool.read(0), 85);
        CHECKS.sentence("Promise 19: Throws IndexOutOfBoundsException if there is no such slot");
        for (int slot : NO_SLOTS) {
            CHECKS.outOfBounds("slot " + slot, pool, () -> pool.restore(slot));
        }
        CHECKS.sentence("Promise 19: Throws IllegalStateException if the slot is empty");
        TestedPool empty = Pools.after("t1");
        CHECKS.badState("slot 0", empty, () -> empty.restore(0));
        CHECKS.badState("slot 1", empty, () -> empty.restore(1));
        empty.save(1);
        CHECKS.badState("slot 0 while slot 1 is filled", empty, () -> empty.restore(0));
        CHECKS.due("slot 1", empty.restore(1), 1);
    }
}
