/** Promises 11, 12 and 29 to 31: time and transfers. */
public final class TimeTest {
    private static final Checks CHECKS = new Checks();
    private static final int NONE = RemoteMemoryPool.NONE;

    public static void main(String[] args) {
        promise11CompletesTransfers();
        promise11MeetsDeadlines();
        promise11KeepsTheLimit();
        promise12();
        promise29();
        promise29ChoosesByClass();
        promise29ChoosesByRecall();
        promise29ChoosesByDeadline();
        promise29ChoosesByPageAndHost();
        promise30();
        promise31();
        CHECKS.end();
    }

    private static TestedPool lending(int... capacities) {
        return PagesTest.lending(capacities);
    }

    private static int transferOf(TestedPool pool) {
        return pool.transfer(0) * 100 + pool.transfer(1) * 10 + pool.transfer(2);
    }

    private static void promise11CompletesTransfers() {
        TestedPool pool = lending(3);
        pool.store(0, 1);
        pool.store(1, 1);
        pool.store(2, 1);
        pool.lend(1, 3);
        CHECKS.due("a second too few", pool.pass(4), 0);
        CHECKS.due("due now", pool.pass(1), 1);
        CHECKS.due("the next has begun", pool.transfer(3), 5);
        CHECKS.due("two more, and rest", pool.pass(600), 2);
        CHECKS.due("safe", pool.countStatus(RemoteMemoryPool.SAFE), 3);
        CHECKS.due("undoable, as one call", pool.savedStates(), 6);
        pool.undo();
        CHECKS.due("back", pool.time(), 5);
        CHECKS.due("with one safe page", pool.countStatus(RemoteMemoryPool.SAFE), 1);
        CHECKS.badArgument("no seconds", pool, () -> pool.pass(0));
        CHECKS.badArgument("-1 seconds", pool, () -> pool.pass(-1));
        CHECKS.badArgument("601 seconds", pool, () -> pool.pass(601));
        CHECKS.badArgument("very many seconds", pool, () -> pool.pass(Integer.MAX_VALUE));
    }

    private static void promise11MeetsDeadlines() {
        TestedPool tie = lending(1, 1);
        tie.store(0, 1);
        tie.recall(0, 5);
        tie.lend(2, 1);
        CHECKS.due("the transfer is completed before the deadline of that second", tie.pass(5), 1);
        CHECKS.due("moved", tie.copies(0), 0b110);
        TestedPool late = lending(1);
        late.store(0, 1);
        late.recall(0, 4);
        late.lend(1, 1);
        CHECKS.due("the deadline comes first", late.pass(600), 0);
        CHECKS.due("lost", late.status(0), RemoteMemoryPool.LOST);
        CHECKS.due("cancelled", late.transfer(0), NONE);
        CHECKS.due("away", late.mode(0), RemoteMemoryPool.AWAY);
        CHECKS.due("connected", late.isConnected(0), true);
        TestedPool after = lending(1, 1, 1);
        after.store(0, 1);
        after.recall(0, 3);
        after.pass(3);
        CHECKS.due("a transfer begins at the deadline of another", transferOf(after), 12);
        CHECKS.due("from that second on", after.transfer(3), 5);
        TestedPool skipped = lending(1, 1, 1);
        skipped.store(0, 1);
        skipped.recall(0, 3);
        CHECKS.due("the move to host 2 is cancelled by the deadline, the restoring begins then", skipped.pass(8), 1);
        CHECKS.due("restored", skipped.copies(0), 0b110);
    }

    private static void promise11KeepsTheLimit() {
        TestedPool pool = lending(2);
        pool.store(0, 1);
        int signs = 0;
        for (int i = 0; i < 16; i++) {
            for (char sign : (i == 0 ? "t600" : ";t600").toCharArray()) {
                signs += pool.appendText(sign) > 0 ? 1 : 0;
            }
        }
        CHECKS.due("signs", signs, 79);
        for (int i = 0; i < 104; i++) {
            CHECKS.due("run " + i, pool.runText(), 16);
        }
        CHECKS.due("one run more ends at the limit", pool.runText(), 2);
        CHECKS.due("time", pool.time(), 999600);
        CHECKS.badState("beyond the limit", pool, () -> pool.pass(401));
        CHECKS.badArgument("out of range goes first", pool, () -> pool.pass(601));
        pool.recall(0, 600);
        CHECKS.due("up to the limit", pool.pass(400), 0);
        CHECKS.due("time at the limit", pool.time(), 1000000);
        CHECKS.badState("no second more", pool, () -> pool.pass(1));
        CHECKS.due("a text does nothing", pool.runText(), 0);
        CHECKS.due("what would be is told all the same", pool.lostIn(199), 0);
        CHECKS.due("with the deadline behind the limit", pool.lostIn(200), 1);
        CHECKS.due("and the rest", pool.restsIn(), 200);
    }

    private static void promise12() {
        TestedPool pool = lending(2);
        pool.store(0, 1);
        pool.store(1, 1);
        pool.lend(1, 2);
        CHECKS.due("the time at first", pool.setTransferTime(60), 5);
        CHECKS.due("what is under way is not changed", pool.transfer(3), 5);
        CHECKS.due("due", pool.pass(5), 1);
        CHECKS.due("the next takes longer", pool.transfer(3), 60);
        CHECKS.due("the time before", pool.setTransferTime(1), 60);
        CHECKS.due("the same again", pool.setTransferTime(1), 1);
        CHECKS.due("undoable, also when it changes nothing", pool.undo(), 5);
        pool.undo();
        CHECKS.due("undone", pool.setTransferTime(7), 60);
        CHECKS.badArgument("0", pool, () -> pool.setTransferTime(0));
        CHECKS.badArgument("61", pool, () -> pool.setTransferTime(61));
        CHECKS.badArgument("-1", pool, () -> pool.setTransferTime(-1));
        TestedPool quick = lending(1);
        quick.setTransferTime(1);
        quick.store(0, 1);
        quick.lend(1, 1);
        CHECKS.due("one second", quick.pass(1), 1);
    }

    private static void promise29() {
        TestedPool pool = lending(1);
        pool.store(7, 1);
        for (int part = 0; part < 4; part++) {
            CHECKS.due("no transfer, part " + part, pool.transfer(part), NONE);
        }
        pool.lend(4, 1);
        pool.pass(2);
        CHECKS.due("page", pool.transfer(0), 7);
        CHECKS.due("source", pool.transfer(1), 0);
        CHECKS.due("target", pool.transfer(2), 4);
        CHECKS.due("seconds", pool.transfer(3), 3);
        CHECKS.badArgument("part -1", pool, () -> pool.transfer(-1));
        CHECKS.badArgument("part 4", pool, () -> pool.transfer(4));
        TestedPool none = new TestedPool();
        CHECKS.badArgument("part 4 of none", none, () -> none.transfer(4));
    }

    private static void promise29ChoosesByClass() {
        TestedPool pool = lending(3, 3);
        pool.store(0, 1);
        pool.store(1, 1);
        pool.crash(1);
        pool.store(2, 1);
        pool.lend(1, 1);
        pool.pass(5);
        CHECKS.due("page 0 is safe again, the others have no room", pool.copies(0), 0b11);
        pool.recall(0, 600);
        CHECKS.due("nowhere to go", pool.transfer(0), NONE);
        pool.lend(3, 9);
        CHECKS.due("class 1 before class 3, the lowest page of it", transferOf(pool), 103);
        CHECKS.due("all in turn", pool.pass(15), 3);
        CHECKS.due("moved: one copy each", pool.status(1) * 10 + pool.status(2), 11);
        CHECKS.due("page 0 comes last and stays safe", pool.copies(0), 0b1010);
        CHECKS.due("the host is released", pool.mode(0), RemoteMemoryPool.AWAY);
        pool.lend(5, 9);
        CHECKS.due("class 2 now", transferOf(pool), 135);

        TestedPool second = lending(2, 2);
        second.store(9, 1);
        second.recall(1, 600);
        second.store(8, 1);
        second.lend(2, 9);
        CHECKS.due("class 2 before class 3, though of a recalled host", transferOf(second), 802);
        second.pass(5);
        CHECKS.due("then class 3", transferOf(second), 912);
        second.pass(5);
        CHECKS.due("moved", second.copies(9), 0b101);

        TestedPool first = lending(2, 2);
        first.store(9, 1);
        first.disconnect(0);
        first.store(8, 1);
        first.recall(1, 600);
        first.lend(2, 2);
        CHECKS.due("of class 1 the lower page", transferOf(first), 812);
    }

    private static void promise29ChoosesByRecall() {
        // Page 0 on host 0 alone, page 1 on host 1 alone, no room left.
        TestedPool pool = lending(1, 1);
        pool.disconnect(0);
        pool.store(1, 1);
        pool.disconnect(1);
        pool.reconnect(0);
        pool.store(0, 1);
        pool.reconnect(1);
        pool.lend(2, 1);
        CHECKS.due("two of class 2: the lower page", transferOf(pool), 2);
        pool.undo();
        pool.recall(1, 600);
        pool.lend(2, 1);
        CHECKS.due("class 1 before class 2", transferOf(pool), 112);
    }

    private static void promise29ChoosesByDeadline() {
        TestedPool late = lending(1, 1);
        late.store(5, 1);
        late.lend(2, 1);
        late.store(6, 1);
        late.recall(2, 600);
        late.recall(0, 10);
        late.lend(3, 1);
        CHECKS.due("class 1 with a late deadline before class 3 with an early one", transferOf(late), 623);

        // Page 0 on host 0 alone, page 1 on host 1 alone, both recalled.
        TestedPool pool = lending(2, 2);
        pool.store(0, 1);
        pool.store(1, 1);
        pool.disconnect(1);
        pool.write(0, 1);
        pool.reconnect(1);
        pool.recall(1, 100);
        pool.disconnect(0);
        pool.write(1, 1);
        pool.reconnect(0);
        int[] deadlines = {200, 101, 100, 99};
        int[] chosen = {112, 112, 2, 2};
        for (int i = 0; i < deadlines.length; i++) {
            pool.recall(0, deadlines[i]);
            pool.lend(2, 1);
            CHECKS.due("class 1, deadlines 100 and " + deadlines[i], transferOf(pool), chosen[i]);
            pool.undo();
            pool.undo();
        }

        TestedPool both = lending(1, 1, 1, 1);
        both.store(0, 1);
        both.store(1, 1);
        both.recall(3, 40);
        both.recall(0, 40);
        both.lend(4, 1);
        CHECKS.due("class 3, the same deadline: the lower page", transferOf(both), 4);
        both.undo();
        both.undo();
        both.recall(0, 41);
        both.lend(4, 1);
        CHECKS.due("class 3: the earlier deadline", transferOf(both), 134);
        both.undo();
        both.recall(1, 39);
        both.lend(4, 1);
        CHECKS.due("class 3: the earlier deadline on the higher host of a page", transferOf(both), 14);
    }

    private static void promise29ChoosesByPageAndHost() {
        TestedPool pool = lending(2, 2);
        pool.store(9, 1);
        pool.store(4, 1);
        pool.recall(0, 20);
        pool.recall(1, 20);
        pool.lend(2, 1);
        CHECKS.due("the same deadline: the lower page, then the lower host", transferOf(pool), 402);
        pool.pass(5);
        CHECKS.due("its place is taken, none is left", pool.transfer(0), NONE);
        pool.lend(3, 3);
        CHECKS.due("still the lower page, from the other host", transferOf(pool), 413);

        TestedPool target = lending(1);
        target.store(0, 1);
        target.lend(1, 2);
        target.pass(5);
        target.crash(0);
        target.recall(1, 99);
        target.lend(2, 1);
        target.pass(1);
        target.lend(3, 5);
        CHECKS.due("a better host later changes nothing", transferOf(target), 12);
        target.recall(2, 9);
        CHECKS.due("until it must be chosen anew", transferOf(target), 13);
    }

    private static void promise30() {
        TestedPool pool = lending(1, 1, 1);
        pool.store(0, 1);
        CHECKS.due("none yet", pool.completedTransfers(), 0);
        pool.disconnect(0);
        pool.reconnect(0);
        pool.pass(4);
        CHECKS.due("under way is not completed", pool.completedTransfers(), 0);
        pool.pass(1);
        CHECKS.due("also that by which nothing changed", pool.completedTransfers(), 1);
        pool.crash(0);
        pool.pass(5);
        CHECKS.due("two", pool.completedTransfers(), 2);
        pool.undo();
        CHECKS.due("part of the state", pool.completedTransfers(), 1);
    }

    private static void promise31() {
        TestedPool pool = new TestedPool();
        pool.pass(600);
        pool.pass(1);
        CHECKS.due("time", pool.time(), 601);
        pool.undo();
        CHECKS.due("part of the state", pool.time(), 600);
        pool.lostIn(600);
        pool.restsIn();
        CHECKS.due("forecasts do not change it", pool.time(), 600);
    }
}
