/** The sentences of the document's sections 4 and 5, transfers and time, that name a boundary case, each with a test. */
public final class Terms4And5Test {
    private static final Checks CHECKS = new Checks();
    private static final int NONE = RemoteMemoryPool.NONE;
    private static final int AWAY = RemoteMemoryPool.AWAY;
    private static final int RECALLED = RemoteMemoryPool.RECALLED;
    private static final int LOST = RemoteMemoryPool.LOST;

    public static void main(String[] args) {
        oneTransfer();
        partsOfATransfer();
        transferTime();
        transferUnderWay();
        candidatesNeedABestHost();
        classOne();
        classTwo();
        classThree();
        orderByClass();
        orderByDeadline();
        orderByPage();
        orderByHost();
        targetIsBestHost();
        noCandidate();
        completedFromRecalled();
        completedFromLendingWithOneCopy();
        completedFromLendingWithTwoCopies();
        noTransferThen();
        secondBySecond();
        transferBeforeDeadline();
        deadlines();
        deadlineCancels();
        deadlineBeforeSettling();
        CHECKS.end();
    }

    private static void oneTransfer() {
        CHECKS.sentence("4: There is at most one transfer at a time.");
        TestedPool pool = Pools.after("l0,2 s0,1 s1,1 l1,2");
        CHECKS.due("one place is taken, though two pages wait", pool.usedRoom(1), 1);
        CHECKS.due("none is completed in four seconds", pool.pass(4), 0);
        CHECKS.due("one in the fifth", pool.pass(1), 1);
        CHECKS.due("none in four more", pool.pass(4), 0);
        CHECKS.due("the second in the tenth", pool.pass(1), 1);
    }

    private static void partsOfATransfer() {
        CHECKS.sentence("4: It has a page, a source, a target and a time at which it is completed, which is the time when it was chosen plus the transfer time.");
        TestedPool pool = Pools.after("t77 l5,1 s29,1 l4,1");
        CHECKS.due("page, source, target", Pools.transfer(pool), 2954);
        CHECKS.due("time", pool.transfer(3), 5);
        pool.pass(4);
        CHECKS.due("the last second", pool.transfer(3), 1);
        CHECKS.due("due", pool.pass(1), 1);
        TestedPool first = Pools.after("l1,1 s0,1 l0,1");
        CHECKS.due("page 0, target 0", Pools.transfer(first), 10);
    }

    private static void transferTime() {
        CHECKS.sentence("4: The transfer time is a setting, from 1 to 60 seconds; it is 5 at first.");
        TestedPool pool = Pools.after("l0,1 s0,1 l1,1");
        CHECKS.due("at first", pool.transfer(3), 5);
        for (int seconds : new int[] {1, 2, 59, 60}) {
            TestedPool set = Pools.after("l0,1 s0,1");
            CHECKS.due("the setting at first", set.setTransferTime(seconds), 5);
            set.lend(1, 1);
            CHECKS.due("set", set.transfer(3), seconds);
            CHECKS.due("it takes that long", set.restsIn(), seconds);
        }
        CHECKS.badArgument("0", pool, () -> pool.setTransferTime(0));
        CHECKS.badArgument("61", pool, () -> pool.setTransferTime(61));
    }

    private static void transferUnderWay() {
        CHECKS.sentence("4: A change of the setting does not affect a transfer that is under way.");
        TestedPool pool = Pools.after("l0,2 s0,1 s1,1 l1,2 t2");
        pool.setTransferTime(60);
        CHECKS.due("not made longer", pool.transfer(3), 3);
        pool.setTransferTime(1);
        CHECKS.due("not made shorter", pool.transfer(3), 3);
        CHECKS.due("due when it was", pool.pass(2) * 10 + pool.pass(1), 1);
        CHECKS.due("the next with the setting", pool.transfer(3), 1);
    }

    private static void candidatesNeedABestHost() {
        CHECKS.sentence("4: such that there is a best host for the page");
        TestedPool full = Pools.after("l0,2 s0,1 s1,1");
        CHECKS.due("an endangered page without a best host", full.transfer(0), NONE);
        TestedPool second = Pools.after("l0,4 l2,1 s1,1 l1,2 s0,1 r0,9");
        CHECKS.due("page 0 has none, page 1 has one", Pools.transfer(second), 101);
        second.lend(3, 3);
        second.pass(5);
        CHECKS.due("when a host lends, page 0 goes too", Pools.transfer(second), 3);
    }

    private static void classOne() {
        CHECKS.sentence("4: class 1: the page has one copy, and the host is RECALLED;");
        TestedPool pool = Pools.after("l0,1 s0,1 r0,60 l1,1");
        CHECKS.due("one copy", Pools.transfer(pool), 1);
        TestedPool cut = Pools.after("l0,1 l1,1 s0,1 o1 r0,60 l2,1");
        CHECKS.due("one copy and a replica elsewhere", Pools.transfer(cut), 2);
        TestedPool off = Pools.after("l0,1 s0,1 r0,60 o0 l1,1");
        CHECKS.due("no copy", off.transfer(0), NONE);
    }

    private static void classTwo() {
        CHECKS.sentence("4: class 2: the page has one copy, and the host is LENDING;");
        CHECKS.due("one copy", Pools.transfer(Pools.after("l0,1 s0,1 l1,1")), 1);
        CHECKS.due("two copies", Pools.after("l0,1 l1,1 s0,1 l2,1").transfer(0), NONE);
        CHECKS.due("no copy", Pools.after("l0,1 s0,1 o0 l1,1").transfer(0), NONE);
    }

    private static void classThree() {
        CHECKS.sentence("4: class 3: the page has two or more copies, and the host is RECALLED.");
        CHECKS.due("two copies, one host RECALLED", Pools.transfer(Pools.after("l0,1 l1,1 s0,1 l2,1 r1,9")), 12);
        CHECKS.due("two copies, both RECALLED", Pools.transfer(Pools.after("l0,1 l1,1 s0,1 r1,9 r0,9 l2,1")), 2);
        CHECKS.due("two copies, none RECALLED", Pools.after("l0,1 l1,1 s0,1 l2,1").transfer(0), NONE);
    }

    private static void orderByClass() {
        CHECKS.sentence("4: The first candidate is chosen in this order: by class;");
        // Page 0 on host 0 alone (LENDING), page 1 on host 1 alone, which is recalled late.
        CHECKS.due("1 before 2, with the higher page", Pools.transfer(Pools.after("l1,1 s1,1 o1 l0,1 s0,1 c1 r1,600 l2,1")), 112);
        // Page 0 on hosts 0 and 1, page 1 on host 1 alone.
        CHECKS.due("2 before 3, with the higher page", Pools.transfer(Pools.after("l0,1 l1,2 s0,1 s1,1 r0,9 l2,1")), 112);
        // Page 0 on hosts 0 and 1, page 1 on host 1 alone: host 0 leaves sooner.
        CHECKS.due("1 before 3, with the later deadline", Pools.transfer(Pools.after("l0,1 l1,2 s0,1 s1,1 r0,9 r1,600 l2,1")), 112);
    }

    private static void orderByDeadline() {
        CHECKS.sentence("4: in the classes 1 and 3 by the deadline of the host, the earliest first;");
        // Page 0 on host 0 alone, page 1 on host 1 alone.
        String single = "l1,1 s1,1 o1 l0,1 s0,1 c1 ";
        CHECKS.due("class 1: 9 before 10, with the higher page", Pools.transfer(Pools.after(single + "r0,10 r1,9 l2,1")), 112);
        CHECKS.due("class 1: 9 before 10, with the lower page", Pools.transfer(Pools.after(single + "r0,9 r1,10 l2,1")), 2);
        CHECKS.due("class 1: deadlines, not the order of the recalls", Pools.transfer(Pools.after(single + "r1,10 t1 r0,9 l2,1")), 2);
        // Page 0 on hosts 0 and 1, page 1 on hosts 2 and 3.
        String pairs = "l0,1 l1,1 s0,1 l2,1 l3,1 s1,1 ";
        CHECKS.due("class 3: 1 before 600", Pools.transfer(Pools.after(pairs + "r0,600 r3,1 l4,1")), 134);
        CHECKS.due("class 3: the sooner host of one page", Pools.transfer(Pools.after(pairs + "r0,600 r1,599 l4,1")), 14);
        CHECKS.due("class 2 has no deadline: the lower page", Pools.transfer(Pools.after(single + "l2,1")), 2);
    }

    private static void orderByPage() {
        CHECKS.sentence("4: then by the number of the page;");
        String single = "l1,1 s1,1 o1 l0,1 s2,1 c1 ";
        CHECKS.due("class 1, the same deadline: the lower page on the higher host", Pools.transfer(Pools.after(single + "r0,9 r1,9 l2,1")), 112);
        CHECKS.due("class 2: the lower page on the higher host", Pools.transfer(Pools.after(single + "l2,1")), 112);
        CHECKS.due("class 3: the lower page on the higher host",
            Pools.transfer(Pools.after("l2,1 l3,1 s0,1 l0,1 l1,1 s1,1 r0,9 r3,9 l4,1")), 34);
        CHECKS.due("class 3: the first page and the last", Pools.transfer(Pools.after("l0,2 l1,2 s29,1 s0,1 r0,9 l4,1")), 4);
        CHECKS.due("the last page alone", Pools.transfer(Pools.after("l0,1 s29,1 l4,1")), 2904);
    }

    private static void orderByHost() {
        CHECKS.sentence("4: then by the number of the host.");
        CHECKS.due("class 3, the same deadline, the same page", Pools.transfer(Pools.after("l4,1 l5,1 s3,1 r5,9 r4,9 l0,1")), 340);
        CHECKS.due("the same deadline by recalls at two times", Pools.transfer(Pools.after("l4,1 l5,1 s3,1 r5,9 t1 r4,8 l0,1")), 340);
        CHECKS.due("a later deadline by one", Pools.transfer(Pools.after("l4,1 l5,1 s3,1 r5,9 t1 r4,9 l0,1")), 350);
    }

    private static void targetIsBestHost() {
        CHECKS.sentence("4: The target is the best host for the page.");
        CHECKS.due("the one with more room", Pools.transfer(Pools.after("l0,1 s0,1 o0 l1,1 l2,2 c0")), 2);
        CHECKS.due("of equal ones the lower", Pools.transfer(Pools.after("l0,1 s0,1 o0 l1,2 l2,2 c0")), 1);
        CHECKS.due("not one that holds the page", Pools.transfer(Pools.after("l0,1 l1,20 s0,1 l2,1 r0,9")), 2);
        TestedPool later = Pools.after("l0,1 s0,1 l1,1 t1 l2,20");
        CHECKS.due("what lends later changes nothing", Pools.transfer(later) * 10 + later.transfer(3), 14);
    }

    private static void noCandidate() {
        CHECKS.sentence("4: If there is no candidate, there is no transfer.");
        CHECKS.due("no page", new TestedPool().transfer(0), NONE);
        CHECKS.due("no endangered page", Pools.after("l0,1 l1,1 l2,1 s0,1").transfer(0), NONE);
        CHECKS.due("no host with room", Pools.after("l0,1 s0,1 r0,9").transfer(0), NONE);
        TestedPool lost = Pools.after("l0,1 s0,1 x0 l1,1");
        CHECKS.due("a LOST page", lost.transfer(0), NONE);
        CHECKS.due("a long time changes nothing", lost.pass(600), 0);
    }

    private static void completedFromRecalled() {
        CHECKS.sentence("4: If the source is RECALLED, its replica is removed, and the target gets a replica with the stamp of the page.");
        TestedPool one = Pools.after("l0,2 s0,1 s1,1 r0,60 l1,1 t4 w0,2");
        CHECKS.due("before", one.copies(0), 0b01);
        one.pass(1);
        CHECKS.due("one copy: moved", one.copies(0), 0b10);
        CHECKS.due("with the stamp of the page by now", one.replica(1, 0), 1);
        CHECKS.due("another page stays", one.copies(1), 0b01);
        TestedPool last = Pools.after("l0,1 s29,1 r0,60 l1,1 t5");
        CHECKS.due("the last page: moved", last.copies(29), 0b10);
        CHECKS.due("the last page: its host is empty", last.usedRoom(0) + last.mode(0), 0);
        TestedPool two = Pools.after("l0,1 l1,1 s0,1 l2,1 r0,60 t5");
        CHECKS.due("two copies: moved", two.copies(0), 0b110);
        TestedPool since = Pools.after("l0,1 l1,1 s0,1 o1 l2,1 t2 c1");
        CHECKS.due("chosen with one copy from a LENDING host", Pools.transfer(since), 2);
        Pools.does(since, "r0,60 t3");
        CHECKS.due("RECALLED since, with two copies: moved", since.copies(0), 0b110);
        TestedPool alone = Pools.after("l0,1 s0,1 l1,1 t2 r0,60 t3");
        CHECKS.due("RECALLED since, with one copy: moved", alone.copies(0), 0b10);
    }

    private static void completedFromLendingWithOneCopy() {
        CHECKS.sentence("4: If the source is LENDING and the page has one copy, the target gets a replica with the stamp of the page.");
        TestedPool pool = Pools.after("l0,1 s0,1 l1,1 t4 w0,2 t1");
        CHECKS.due("copied", pool.copies(0), 0b11);
        CHECKS.due("with the stamp of the page by now", pool.replica(1, 0), 1);
        TestedPool cut = Pools.after("l0,1 l1,1 l2,1 s0,1 o1 t5");
        CHECKS.due("one copy, and a replica that is cut off", cut.copies(0), 0b101);
    }

    private static void completedFromLendingWithTwoCopies() {
        CHECKS.sentence("4: If the source is LENDING and the page has two or more copies, nothing changes.");
        TestedPool pool = Pools.after("l0,1 l1,1 l2,1 s0,1 o1 t2 c1 t2");
        CHECKS.due("under way with two copies", Pools.transfer(pool), 2);
        CHECKS.due("it is completed", pool.pass(1), 1);
        CHECKS.due("the target gets nothing", pool.replica(2, 0), 0);
        CHECKS.due("the source keeps its replica", pool.copies(0), 0b11);
        CHECKS.due("the place is free", pool.freeRoom(2), 1);
        CHECKS.due("counted", pool.completedTransfers(), 1);
    }

    private static void noTransferThen() {
        CHECKS.sentence("4: There is no transfer then.");
        TestedPool pool = Pools.after("l0,1 s0,1 l1,2 t5");
        for (int part = 0; part < 4; part++) {
            CHECKS.due("part " + part, pool.transfer(part), NONE);
        }
        CHECKS.due("nothing is taken but by the replica", pool.usedRoom(1), 1);
        CHECKS.due("at rest", pool.restsIn(), 0);
    }

    private static void secondBySecond() {
        CHECKS.sentence("5: When time passes, the current time increases second by second.");
        String start = "l0,20 l1,20 s0,1 s1,1 s2,1 s3,1 s4,1 x1 l2,3 r0,16 l3,20 ";
        TestedPool whole = Pools.after(start);
        TestedPool single = Pools.after(start);
        int completed = 0;
        for (int second = 0; second < 60; second++) {
            completed += single.pass(1);
        }
        CHECKS.due("as many transfers in one call as in sixty", whole.pass(60), completed);
        for (int i = 0; i < 6; i++) {
            CHECKS.due("as many in each second behind them", whole.pass(1), single.pass(1));
        }
        CHECKS.due("and the same pool", Observation.of(whole), Observation.of(single));
    }

    private static void transferBeforeDeadline() {
        CHECKS.sentence("5: In each second the following happens in this order: the transfer is completed if it is due at this time;");
        TestedPool same = Pools.after("l0,1 s0,1 r0,5 l1,1");
        CHECKS.due("due in the second of the deadline", same.pass(5), 1);
        CHECKS.due("saved", same.copies(0), 0b10);
        TestedPool before = Pools.after("l0,1 s0,1 r0,6 l1,1 t6");
        CHECKS.due("due a second before", before.copies(0), 0b10);
        TestedPool after = Pools.after("l0,1 s0,1 r0,4 l1,1");
        CHECKS.due("due a second after", after.pass(600), 0);
        CHECKS.due("lost", after.status(0), LOST);
    }

    private static void deadlines() {
        CHECKS.sentence("5: then each host that is RECALLED and whose deadline is this time, connected or not, in ascending order of their numbers, "
            + "loses all its replicas and becomes AWAY (it stays connected or disconnected)");
        TestedPool pool = Pools.after("l0,2 l1,2 l2,2 s0,1 s1,1 s2,1 r0,7 r1,7 r2,8 o1 w0,2 t6");
        CHECKS.due("a second before", pool.mode(0) + pool.mode(1) + pool.mode(2), 3 * RECALLED);
        pool.pass(1);
        CHECKS.due("both of this second, not the next", pool.mode(0) * 100 + pool.mode(1) * 10 + pool.mode(2), RECALLED);
        CHECKS.due("it stays connected", pool.isConnected(0), true);
        CHECKS.due("it stays disconnected", pool.isConnected(1), false);
        CHECKS.due("fresh and stale replicas are gone", pool.usedRoom(0) + pool.usedRoom(1), 0);
        CHECKS.due("the other host holds its own", pool.usedRoom(2), 2);
        pool.pass(1);
        CHECKS.due("a second later", pool.mode(2), AWAY);
        CHECKS.due("all lost", pool.countStatus(LOST), 3);
        CHECKS.due("a LENDING host has none", Pools.after("l0,1 s0,1 t600 t600").mode(0), RemoteMemoryPool.LENDING);
        TestedPool again = Pools.after("l0,1 s0,1 r0,7 x0 l0,1 s1,1 t6 t1");
        CHECKS.due("the deadline before a crash does not count", again.mode(0), RemoteMemoryPool.LENDING);
        CHECKS.due("and takes no replica", again.status(1), RemoteMemoryPool.ENDANGERED);
        CHECKS.due("the longest", Pools.after("l0,1 s0,1 r0,600 t599").mode(0), RECALLED);
        CHECKS.due("the longest, at its end", Pools.after("l0,1 s0,1 r0,600 t600").mode(0), AWAY);
        CHECKS.due("the shortest", Pools.after("l0,1 s0,1 r0,1 t1").mode(0), AWAY);
        for (int host = 0; host < 6; host++) {
            TestedPool midst = Pools.after("l" + host + ",1 s0,1 r" + host + ",7 t100");
            CHECKS.due("in the midst of a call, host " + host, midst.mode(host), AWAY);
            CHECKS.due("the time goes on, host " + host, midst.time(), 100);
        }
        TestedPool six = Pools.after("l0,1 l1,1 s0,1 l2,1 l3,1 s1,1 l4,1 l5,1 s2,1 r0,16 r1,15 r2,14 r3,13 r4,12 r5,11");
        for (int host = 5; host >= 0; host--) {
            CHECKS.due("lost by the time of host " + host, six.lostIn(16 - host), host % 2 == 0 ? 3 - host / 2 : 2 - host / 2);
        }
        CHECKS.due("six deadlines in one call", six.pass(600) + six.countStatus(LOST), 3);
    }

    private static void deadlineCancels() {
        CHECKS.sentence("5: and the transfer is cancelled if it comes from this host;");
        TestedPool from = Pools.after("l0,1 s0,1 r0,4 l1,1 t4");
        CHECKS.due("from it", from.transfer(0), NONE);
        CHECKS.due("no place is taken", from.usedRoom(1), 0);
        CHECKS.due("never completed", from.pass(1) + from.completedTransfers(), 0);
        TestedPool other = Pools.after("l0,1 s0,1 l1,1 l4,1 s5,1 r4,2 t2");
        CHECKS.due("the host of page 5 has gone", other.status(5), LOST);
        CHECKS.due("from another host", Pools.transfer(other) * 10 + other.transfer(3), 13);
        CHECKS.due("page 1 from host 3 to host 2", Pools.after("l3,1 s1,1 r3,4 l2,1 t4").transfer(0), NONE);
        TestedPool page = Pools.after("l3,1 s1,1 l2,1 l1,1 s5,1 r1,2 t2");
        CHECKS.due("page 1, host 1", Pools.transfer(page) * 10 + page.transfer(3), 1323);
    }

    private static void deadlineBeforeSettling() {
        CHECKS.sentence("5: then the pool settles (section 3).");
        TestedPool two = Pools.after("l0,2 s0,1 s1,1 r0,5 l1,2 t5");
        CHECKS.due("page 1 is lost in the second in which page 0 is saved", two.status(1), LOST);
        CHECKS.due("no transfer from a host that has gone", two.transfer(0), NONE);
        TestedPool next = Pools.after("l0,1 l1,1 s0,1 l2,1 r0,3 t3");
        CHECKS.due("a new transfer in the second of the deadline", Pools.transfer(next) * 10 + next.transfer(3), 125);
        CHECKS.due("completed five seconds later", next.pass(4) * 10 + next.pass(1), 1);
        TestedPool released = Pools.after("l0,1 s0,1 r0,9 l1,1 t5");
        CHECKS.due("released in the second of the transfer", released.mode(0), AWAY);
        CHECKS.due("not by its deadline", released.deadlineIn(0), NONE);
    }
}
