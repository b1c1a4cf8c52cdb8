/** The sentences of the document's head and of its sections 1 and 2 that name a boundary case, each with a test. */
public final class Terms1And2Test {
    private static final Checks CHECKS = new Checks();
    private static final int NONE = RemoteMemoryPool.NONE;

    public static void main(String[] args) {
        callsOfAnObject();
        sixHosts();
        modes();
        capacities();
        deadlines();
        connectedInEachMode();
        atFirst();
        thirtyPages();
        values();
        stamps();
        oneReplicaOfAPage();
        freshAndStale();
        copiesAreOnConnectedHosts();
        copiesAreFreshAndAwayHoldsNothing();
        statuses();
        usedRoom();
        freeRoom();
        greatestFreeRoom();
        lowestOfEqualHosts();
        roomOfAtLeastOne();
        holdersAreNotBest();
        noBestHost();
        CHECKS.end();
    }

    private static void callsOfAnObject() {
        CHECKS.sentence("An object is used for at most 512 calls after it has been made");
        TestedPool pool = new TestedPool();
        for (int call = 1; call <= 510; call++) {
            pool.pass(1);
        }
        CHECKS.due("call 511", pool.undo(), 5);
        CHECKS.due("call 512", pool.time(), 509);
    }

    private static void sixHosts() {
        CHECKS.sentence("1: There are six hosts, numbered 0 to 5.");
        TestedPool pool = new TestedPool();
        for (int host = 5; host >= 0; host--) {
            CHECKS.due("host " + host + " adds its own room", pool.lend(host, 10 + host), 10 * (6 - host) + (5 + host) * (6 - host) / 2);
        }
        for (int host = 0; host < 6; host++) {
            CHECKS.due("room of host " + host, pool.freeRoom(host), 10 + host);
        }
        CHECKS.outOfBounds("no seventh host", pool, () -> pool.lend(6, 1));
        CHECKS.outOfBounds("no host below 0", pool, () -> pool.lend(-1, 1));
    }

    private static void modes() {
        CHECKS.sentence("1: A host has a mode, which is AWAY (0), LENDING (1) or RECALLED (2).");
        TestedPool pool = Pools.after("l0,1 l1,1 s0,0 r1,600");
        CHECKS.due("RECALLED", pool.mode(1), 2);
        CHECKS.due("LENDING", pool.mode(0), 1);
        CHECKS.due("AWAY", pool.mode(2), 0);
    }

    private static void capacities() {
        CHECKS.sentence("1: A host in the mode LENDING or RECALLED has a capacity, from 1 to 20");
        TestedPool least = Pools.after("l0,1");
        CHECKS.due("the first page on a host of capacity 1", least.store(0, 1), 1);
        CHECKS.badState("the second", least, () -> least.store(1, 1));
        TestedPool most = Pools.after("l0,20");
        for (int page = 0; page < 20; page++) {
            CHECKS.due("page " + page + " on a host of capacity 20", most.store(page, 1), 1);
        }
        CHECKS.due("full", most.usedRoom(0) * 100 + most.freeRoom(0), 2000);
        CHECKS.badState("page 20", most, () -> most.store(20, 1));
        TestedPool none = new TestedPool();
        CHECKS.badArgument("capacity 0", none, () -> none.lend(0, 0));
        CHECKS.badArgument("capacity 21", none, () -> none.lend(0, 21));
    }

    private static void deadlines() {
        CHECKS.sentence("1: a host in the mode RECALLED has a deadline, which is a time.");
        TestedPool pool = Pools.after("t7 l0,1 l1,1 s0,0 r0,1 r1,600");
        CHECKS.due("the nearest and the farthest", pool.deadlineIn(0) * 1000 + pool.deadlineIn(1), 1600);
        pool.pass(1);
        CHECKS.due("a second later", pool.deadlineIn(0) * 1000 + pool.deadlineIn(1), -1000 + 599);
        CHECKS.due("neither LENDING nor AWAY", Pools.after("l0,1").deadlineIn(0) + pool.deadlineIn(5), 2 * NONE);
    }

    private static void connectedInEachMode() {
        CHECKS.sentence("1: Independently of its mode, a host is connected or disconnected.");
        TestedPool pool = Pools.after("l0,1 l1,1 s0,0 r0,9");
        for (int host = 0; host < 3; host++) {
            CHECKS.due("connected, mode " + pool.mode(host), pool.isConnected(host), true);
        }
        Pools.does(pool, "o0 o1");
        CHECKS.due("RECALLED and disconnected", pool.mode(0) == 2 && !pool.isConnected(0), true);
        CHECKS.due("LENDING and disconnected", pool.mode(1) == 1 && !pool.isConnected(1), true);
        pool.pass(9);
        CHECKS.due("AWAY and disconnected", pool.mode(0) == 0 && !pool.isConnected(0), true);
        pool.reconnect(0);
        CHECKS.due("AWAY and connected", pool.mode(0) == 0 && pool.isConnected(0), true);
    }

    private static void atFirst() {
        CHECKS.sentence("1: At first all hosts are AWAY and connected.");
        TestedPool pool = new TestedPool();
        for (int host = 0; host < 6; host++) {
            CHECKS.due("mode of host " + host, pool.mode(host), RemoteMemoryPool.AWAY);
            CHECKS.due("host " + host, pool.isConnected(host), true);
        }
        CHECKS.sentence("1: The current time is 0 at first.");
        CHECKS.due("time", pool.time(), 0);
        CHECKS.sentence("1: at first no page exists.");
        for (int page = 0; page < 30; page++) {
            CHECKS.due("page " + page, pool.status(page), NONE);
        }
    }

    private static void thirtyPages() {
        CHECKS.sentence("1: Pages are numbered 0 to 29.");
        TestedPool pool = Pools.after("l1,20 l3,20 l5,20");
        for (int page = 0; page < 30; page++) {
            CHECKS.due("page " + page, pool.store(page, 100 + page), 2);
        }
        for (int page = 0; page < 30; page++) {
            CHECKS.due("its own value, page " + page, pool.read(page), 100 + page);
        }
        CHECKS.due("all safe", pool.countStatus(RemoteMemoryPool.SAFE), 30);
        CHECKS.due("on hosts that are full", pool.freeRoom(1) + pool.freeRoom(3) + pool.freeRoom(5), 0);
        CHECKS.due("to the last place", pool.usedRoom(1) + pool.usedRoom(3) + pool.usedRoom(5), 60);
        CHECKS.due("at rest", pool.restsIn(), 0);
        CHECKS.outOfBounds("no page 30", pool, () -> pool.remove(30));
        CHECKS.outOfBounds("no page -1", pool, () -> pool.remove(-1));
    }

    private static void values() {
        CHECKS.sentence("1: A page that exists has a value, from 0 to 9999, and a stamp.");
        TestedPool pool = Pools.after("l0,2 s0,0 s1,9999");
        CHECKS.due("the least", pool.read(0), 0);
        CHECKS.due("the greatest", pool.read(1), 9999);
        Pools.does(pool, "w0,9999 w1,0");
        CHECKS.due("the greatest, written", pool.read(0), 9999);
        CHECKS.due("the least, written", pool.read(1), 0);
    }

    private static void stamps() {
        CHECKS.sentence("1: There is a stamp counter, which is 0 at first.");
        CHECKS.due("the first stamp makes replicas fresh", Pools.after("l0,1 s0,5").replica(0, 0), 1);

        CHECKS.sentence("1: Each time a page is stored or written, the stamp counter increases by 1, and its new number becomes the stamp of the page.");
        TestedPool same = Pools.after("l0,1 l1,1 s0,5 o0 w0,5");
        CHECKS.due("stale after a write of the same value", same.replica(0, 0), 2);
        Pools.does(same, "d0 s0,5");
        CHECKS.due("stale for the page stored again with its first value", same.replica(0, 0), 2);

        TestedPool often = Pools.after("l0,1 l1,1 s0,5 o0");
        Pools.put(often, "w0,5" + ";w0,5".repeat(15));
        for (int writes = 16; writes <= 6400; writes += 16) {
            CHECKS.due("writes", often.runText(), 16);
            CHECKS.due("stale after " + writes + " writes", often.twin().replica(0, 0), 2);
        }
        CHECKS.due("and removed at last", often.reconnect(0), 1);
    }

    private static void oneReplicaOfAPage() {
        CHECKS.sentence("1: A host can hold replicas of pages, at most one of each page.");
        TestedPool pool = Pools.after("l0,20");
        CHECKS.due("one copy on the only host", pool.store(0, 1), 1);
        CHECKS.due("one replica", pool.usedRoom(0), 1);
        CHECKS.due("no transfer to itself", pool.transfer(0), NONE);
        pool.recall(0, 9);
        CHECKS.due("nor when it is recalled", pool.transfer(0), NONE);
    }

    private static void freshAndStale() {
        CHECKS.sentence("1: A replica is fresh if the page exists and has the stamp of the replica; otherwise it is stale.");
        TestedPool pool = Pools.after("l0,3 l1,3 s0,1 s1,1 s2,1 o0 w0,1 d1");
        CHECKS.due("the page has another stamp", pool.replica(0, 0), 2);
        CHECKS.due("the page does not exist", pool.replica(0, 1), 2);
        CHECKS.due("the page has its stamp", pool.replica(0, 2), 1);
        CHECKS.due("of another page none", pool.replica(0, 3), 0);
        pool.store(1, 1);
        CHECKS.due("the page exists again with another stamp", pool.replica(0, 1), 2);
        Pools.does(pool, "o1 x1");
        CHECKS.due("fresh also when it is the last", pool.replica(0, 2), 1);
    }

    private static void copiesAreOnConnectedHosts() {
        CHECKS.sentence("1: A copy of a page is a replica of it on a connected host.");
        TestedPool pool = Pools.after("l0,1 l5,1 s29,1");
        CHECKS.due("both", pool.copies(29), 0b100001);
        pool.recall(5, 9);
        CHECKS.due("also on a RECALLED host", pool.copies(29), 0b100001);
        pool.disconnect(5);
        CHECKS.due("not on a disconnected one", pool.copies(29), 0b000001);
        pool.disconnect(0);
        CHECKS.due("none", pool.copies(29), 0);
        Pools.does(pool, "c5 c0");
        CHECKS.due("both again", pool.copies(29), 0b100001);
    }

    private static void copiesAreFreshAndAwayHoldsNothing() {
        CHECKS.sentence("1: (By the rules below all copies are fresh, and a host that is AWAY holds no replica.)");
        for (int run = 1; run <= 3; run++) {
            int number = run;
            TestedPool pool = Pools.after("l0,4 l1,4 l2,4 l3,4");
            for (int call = 0; call < 280; call++) {
                number = (number * 1103515245 + 12345) & Integer.MAX_VALUE;
                int host = (number >> 8) % 6;
                int page = (number >> 12) % 8;
                char letter = "ssslwdrocxtt".charAt((number >> 16) % 12);
                String numbers = letter == 't' ? "" + (1 + page) : "swd".indexOf(letter) >= 0 ? page + ",1" : host + "," + (2 + page);
                try {
                    Pools.does(pool, letter + numbers);
                } catch (IllegalStateException e) {
                    continue;
                }
                holdsWhatItMay(pool.twin(), "run " + run + ", after call " + call + " " + letter + numbers);
            }
        }
    }

    private static void holdsWhatItMay(TestedPool pool, String when) {
        int pages = 0;
        for (int page = 0; page < 30; page++) {
            pages |= pool.status(page) == NONE ? 0 : 1 << page;
        }
        for (int host = 0; host < 6; host++) {
            boolean connected = pool.isConnected(host);
            boolean away = pool.mode(host) == RemoteMemoryPool.AWAY;
            for (int page = 0; page < 30; page++) {
                int held = pool.replica(host, page);
                if (held == 2 && connected) {
                    CHECKS.fail(when + ": a stale copy of " + page + " on " + host);
                }
                if (held != 0 && away) {
                    CHECKS.fail(when + ": the AWAY host " + host + " holds " + page);
                }
                if (held == 1 && (pages >> page & 1) == 0) {
                    CHECKS.fail(when + ": a fresh replica of no page " + page + " on " + host);
                }
            }
        }
    }

    private static void statuses() {
        CHECKS.sentence("1: The status of a page that exists is SAFE (2) if it has two or more copies, ENDANGERED (1) if it has one copy, "
            + "UNAVAILABLE (0) if it has no copy but a fresh replica on a disconnected host, and LOST (-2) otherwise.");
        TestedPool pool = Pools.after("l0,1 l1,1 s7,1");
        CHECKS.due("two copies", pool.status(7), 2);
        pool.disconnect(1);
        CHECKS.due("one copy, and a fresh replica", pool.status(7), 1);
        pool.disconnect(0);
        CHECKS.due("no copy, two fresh replicas", pool.status(7), 0);
        pool.crash(0);
        CHECKS.due("no copy, one fresh replica", pool.status(7), 0);
        pool.crash(1);
        CHECKS.due("nothing", pool.status(7), -2);
        TestedPool stale = Pools.after("l0,1 l1,1 s7,1 o0 w7,2 o1");
        CHECKS.due("a fresh and a stale replica", stale.status(7), 0);
        stale.crash(1);
        CHECKS.due("a stale replica only", stale.status(7), -2);
        TestedPool alone = Pools.after("l0,1 s7,1");
        CHECKS.due("one copy and nothing else", alone.status(7), 1);
        alone.crash(0);
        CHECKS.due("gone with its only host", alone.status(7), -2);
    }

    private static void usedRoom() {
        CHECKS.sentence("2: The used room of a host is the number of its replicas, fresh or stale, plus 1 if the transfer (section 4) goes to this host.");
        TestedPool pool = Pools.after("l0,3 l1,3 s0,1 s1,1 s2,1 o0 w0,1 d1");
        CHECKS.due("one stale by a write, one by a removal, one fresh", pool.usedRoom(0), 3);
        TestedPool target = Pools.after("l0,2 s0,1 s1,1 l1,1");
        CHECKS.due("no replica but the transfer", target.usedRoom(1), 1);
        CHECKS.due("nothing more at its source", target.usedRoom(0), 2);
        CHECKS.due("nor elsewhere", target.usedRoom(2), 0);
        target.pass(5);
        CHECKS.due("a replica in its place", target.usedRoom(1), 1);
        TestedPool both = Pools.after("l0,20 s0,1 s1,1 l1,20 t5");
        CHECKS.due("a replica and the transfer", both.usedRoom(1), 2);
        both.remove(1);
        CHECKS.due("the transfer is cancelled", both.usedRoom(1), 1);
        CHECKS.due("nothing on a host that is AWAY", both.usedRoom(5), 0);
    }

    private static void freeRoom() {
        CHECKS.sentence("2: The free room of a host is its capacity minus its used room if it is LENDING and connected; otherwise it is 0.");
        TestedPool pool = Pools.after("l0,20 l1,2 s0,1");
        CHECKS.due("20 but 1", pool.freeRoom(0), 19);
        CHECKS.due("2 but 1", pool.freeRoom(1), 1);
        pool.store(1, 1);
        CHECKS.due("full", pool.freeRoom(1), 0);
        CHECKS.due("AWAY", pool.freeRoom(2), 0);
        pool.recall(0, 9);
        CHECKS.due("RECALLED", pool.freeRoom(0), 0);
        pool.disconnect(0);
        CHECKS.due("RECALLED and disconnected", pool.freeRoom(0), 0);
        TestedPool cut = Pools.after("l0,20 o0");
        CHECKS.due("LENDING and disconnected", cut.freeRoom(0), 0);
        cut.reconnect(0);
        CHECKS.due("LENDING and connected again", cut.freeRoom(0), 20);
        TestedPool target = Pools.after("l0,1 s0,1 l1,1");
        CHECKS.due("the place that the transfer has", target.freeRoom(1), 0);
        CHECKS.badState("is no room for a page", target, () -> target.store(1, 1));
    }

    private static void greatestFreeRoom() {
        CHECKS.sentence("2: The best host for a page is the host with the greatest free room");
        TestedPool pool = Pools.after("l0,18 l1,20 l2,19 l3,20 s0,1");
        CHECKS.due("the two greatest", pool.copies(0), 0b1010);
        Pools.does(pool, "s1,1");
        CHECKS.due("three of 19: the lower two", pool.copies(1), 0b0110);
        TestedPool capacity = Pools.after("l0,3 s0,1 s1,1 l1,2 t10");
        capacity.lend(2, 1);
        capacity.store(2, 1);
        CHECKS.due("free room counts, not capacity: 1 and 1, the full host not", capacity.copies(2), 0b101);
        TestedPool transfer = Pools.after("l0,1 s0,1 l1,2 l2,2");
        CHECKS.due("to host 1", Pools.transfer(transfer), 1);
        Pools.does(transfer, "l3,1 s1,1");
        CHECKS.due("host 2 with 2, then host 1 with 1 beside the transfer", transfer.copies(1), 0b0110);
    }

    private static void lowestOfEqualHosts() {
        CHECKS.sentence("2: among hosts with the same free room it is the one with the lowest number.");
        TestedPool pool = Pools.after("l5,1 l4,1 l3,1 s0,1");
        CHECKS.due("of three with 1", pool.copies(0), 0b011000);
        TestedPool six = Pools.after("l5,20 l4,20 l3,20 l2,20 l1,20 l0,20 s0,1 s1,1 s2,1");
        CHECKS.due("0 and 1", six.copies(0), 0b000011);
        CHECKS.due("2 and 3", six.copies(1), 0b001100);
        CHECKS.due("4 and 5", six.copies(2), 0b110000);
        CHECKS.due("the target of a transfer too", Pools.transfer(Pools.after("l3,1 s0,1 o3 l5,2 l4,2 l2,2 c3")), 32);
    }

    private static void roomOfAtLeastOne() {
        CHECKS.sentence("2: among the hosts with a free room of at least 1");
        TestedPool pool = Pools.after("l0,1 l1,2 s0,1");
        CHECKS.due("free room 0 and 1", pool.freeRoom(0) * 10 + pool.freeRoom(1), 1);
        CHECKS.due("with 1 it is best, with 0 it is not", pool.store(1, 1), 1);
        CHECKS.due("so it is on host 1", pool.copies(1), 0b10);
        TestedPool full = Pools.after("l0,1 l1,1 s0,1 x1 o0 l1,1 s1,1 c0");
        CHECKS.due("two pages that are endangered, no room: no transfer", full.transfer(0), NONE);
        full.lend(2, 1);
        CHECKS.due("room 1: a transfer", Pools.transfer(full), 2);
    }

    private static void holdersAreNotBest() {
        CHECKS.sentence("2: that hold no replica of the page");
        TestedPool pool = Pools.after("l0,20 l1,1 s0,1");
        CHECKS.due("the second replica not on the host with 19", pool.copies(0), 0b11);
        TestedPool recalled = Pools.after("l0,5 l1,20 s0,1 r0,9");
        CHECKS.due("host 1 has room but holds the page", recalled.transfer(0), NONE);
        recalled.lend(2, 1);
        CHECKS.due("host 2 has less but does not", Pools.transfer(recalled), 2);
    }

    private static void noBestHost() {
        CHECKS.sentence("2: There may be no best host.");
        TestedPool none = new TestedPool();
        CHECKS.badState("no host lends", none, () -> none.store(0, 1));
        TestedPool full = Pools.after("l0,1 l1,1 s0,1");
        CHECKS.badState("all are full", full, () -> full.store(1, 1));
        TestedPool cut = Pools.after("l0,9 l1,9 s0,1 o0 r1,9");
        CHECKS.badState("those with room are disconnected or RECALLED", cut, () -> cut.store(1, 1));
        CHECKS.due("and page 0 has nowhere to go", cut.transfer(0), NONE);
        TestedPool single = Pools.after("l0,2 s0,1");
        CHECKS.due("none for a second replica", single.copies(0), 0b1);
    }
}
