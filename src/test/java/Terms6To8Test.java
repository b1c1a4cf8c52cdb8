/** The sentences of the document's sections 6 to 8, state, texts and exceptions, that name a boundary case, each with a test. */
public final class Terms6To8Test {
    private static final Checks CHECKS = new Checks();
    private static final int NONE = RemoteMemoryPool.NONE;
    private static final Class<?> BOUNDS = IndexOutOfBoundsException.class;
    private static final Class<?> ARGUMENT = IllegalArgumentException.class;
    private static final Class<?> STATE = IllegalStateException.class;

    public static void main(String[] args) {
        stateHasAll();
        undoableSaves();
        undoableSavesWithoutChange();
        othersDoNotSave();
        sixAreSaved();
        twoSlots();
        savedStatesAreNotState();
        textHoldsEighty();
        textIsNotState();
        oneOrMoreCommands();
        numbersWithoutLeadingZeros();
        commands();
        signsThatMayFollow();
        endsTooEarly();
        refusedCallsChangeNothing();
        refusedAtTheEdges();
        firstNamedIsThrown();
        CHECKS.end();
    }

    /** A pool with six saved states, both slots filled, a transfer, all three modes, stale replicas and a full text. */
    static TestedPool busy() {
        TestedPool pool = Pools.after("l0,4 l1,4 s0,1 s1,2 s2,3");
        pool.setTransferTime(7);
        pool.save(0);
        Pools.does(pool, "l2,3 o1 w0,9 d2 t8");
        pool.setTransferTime(11);
        pool.save(1);
        Pools.does(pool, "l4,5 s9,9 s8,8 r2,40 t1");
        pool.setTransferTime(13);
        Pools.put(pool, "l3,1;s29,9999" + ";t1".repeat(22) + "0");
        return pool;
    }

    private static TestedPool busyWithHalfAText() {
        TestedPool pool = busy();
        Pools.put(pool, "x0;l0,1;t");
        return pool;
    }

    private static void stateHasAll() {
        CHECKS.sentence("6: The state consists of everything in sections 1 to 5, the transfer time, and the number of completed transfers.");
        TestedPool pool = busy();
        String before = Observation.of(pool);
        CHECKS.due("all kinds of things to keep", pool.completedTransfers() > 0 && pool.transfer(0) != NONE && pool.usedRoom(1) > 0, true);
        pool.save(0);
        Pools.does(pool, "x0 x1 t600 l0,20 s3,3");
        pool.setTransferTime(60);
        pool.restore(0);
        String after = Observation.of(pool);
        CHECKS.due("restored", after, before);
        CHECKS.due("with its transfer time", pool.setTransferTime(1), 13);
        pool.undo();
        pool.undo();
        CHECKS.due("undone", pool.setTransferTime(1), 60);
        Pools.does(pool, "t1");
        pool.restore(0);
        Pools.does(pool, "t40 x0");
        String once = Observation.of(pool);
        pool.restore(0);
        Pools.does(pool, "t40 x0");
        CHECKS.due("what happens later is the same too", Observation.of(pool), once);
        TestedPool hosts = Pools.after("l0,4 l1,4 l2,4 l3,4 l4,4 l5,4 s0,1 s1,1 s2,1 r5,9 r0,9 o4 w2,2");
        String six = Observation.of(hosts);
        hosts.save(0);
        Pools.does(hosts, "x0 x1 x2 x3 x4 x5");
        hosts.restore(0);
        CHECKS.due("all six hosts", Observation.of(hosts), six);
        TestedPool stamped = Pools.after("l0,1 l1,1 s0,1 o0 w0,1");
        stamped.save(0);
        stamped.restore(0);
        for (int writes = 0; writes < 4; writes++) {
            CHECKS.due("the stamp counter goes on where it was, writes " + writes, stamped.replica(0, 0), 2);
            stamped.write(0, 1);
        }
        TestedPool values = Pools.after("l0,20 l1,20 l2,20");
        for (int page = 0; page < 30; page++) {
            values.store(page, 1000 + page);
        }
        values.save(0);
        for (int page = 0; page < 30; page++) {
            values.write(page, 2000 + page);
        }
        values.undo();
        for (int page = 0; page < 30; page++) {
            CHECKS.due("values are undone, page " + page, values.read(page), (page < 29 ? 2000 : 1000) + page);
        }
        values.restore(0);
        for (int page = 0; page < 30; page++) {
            CHECKS.due("values are restored, page " + page, values.read(page), 1000 + page);
        }
    }

    private static void undoableSaves() {
        CHECKS.sentence("6: A method that is marked \"Undoable\" saves the state as it was before the call, unless the call throws an exception.");
        Hidden.PoolCall[] calls = {
            p -> p.store(5, 3), p -> p.write(0, 3), p -> p.remove(1), p -> p.lend(5, 20), p -> p.recall(0, 9), p -> p.disconnect(0),
            p -> p.reconnect(1), p -> p.crash(0), p -> p.pass(77), p -> p.setTransferTime(9), p -> p.restore(1), p -> p.restore(0),
        };
        for (int i = 0; i < calls.length; i++) {
            TestedPool pool = busy();
            pool.undo();
            String before = Observation.of(pool);
            calls[i].on(pool);
            CHECKS.due("saved by call " + i, pool.savedStates(), 6);
            CHECKS.due("one is taken back, call " + i, pool.undo(), 5);
            CHECKS.due("as it was before call " + i, Observation.of(pool), before);
            CHECKS.due("with its transfer time, call " + i, pool.setTransferTime(1), 11);
        }
        TestedPool text = busy();
        text.clearText();
        Pools.put(text, "l5,1;t1;x0;t2");
        text.undo();
        String before = Observation.of(text);
        CHECKS.due("a text of four commands", text.runText(), 4);
        CHECKS.due("saves one state", text.savedStates(), 6);
        text.undo();
        CHECKS.due("as it was before the text", Observation.of(text), before);

        Hidden.PoolCall[] refused = {
            p -> p.store(30, 0), p -> p.store(0, -1), p -> p.store(0, 0), p -> p.write(30, 0), p -> p.write(0, -1), p -> p.write(0, 0),
            p -> p.remove(30), p -> p.remove(0), p -> p.lend(6, 1), p -> p.lend(0, 0), p -> p.lend(5, 1), p -> p.recall(6, 1),
            p -> p.recall(0, 0), p -> p.recall(0, 1), p -> p.disconnect(6), p -> p.disconnect(0), p -> p.reconnect(6),
            p -> p.reconnect(0), p -> p.crash(6), p -> p.crash(0), p -> p.pass(0), p -> p.setTransferTime(0), p -> p.restore(2),
            p -> p.restore(1), TestedPool::runText,
        };
        for (int i = 0; i < refused.length; i++) {
            TestedPool pool = Pools.after("l5,1 s29,0");
            try {
                CHECKS.fail("refused call " + i + " answered " + refused[i].on(pool));
            } catch (RuntimeException e) {
                CHECKS.due("saved by refused call " + i, pool.savedStates(), 2);
            }
        }
    }

    private static void undoableSavesWithoutChange() {
        CHECKS.sentence("6: (It is saved even if the call changes nothing.)");
        TestedPool pool = Pools.after("l0,1");
        pool.setTransferTime(5);
        CHECKS.due("the transfer time that it has", pool.savedStates(), 2);
        pool.save(0);
        pool.restore(0);
        CHECKS.due("the state that it has", pool.savedStates(), 3);
        Pools.put(pool, "d0");
        CHECKS.due("a text of which nothing is executed", pool.runText(), 0);
        CHECKS.due("is saved too", pool.savedStates(), 4);
        CHECKS.due("and undone one by one", pool.undo() * 100 + pool.undo() * 10 + pool.undo(), 321);
        CHECKS.due("back to the one change", pool.mode(0), 1);
        pool.undo();
        CHECKS.due("which is undone last", pool.mode(0), 0);
    }

    private static void othersDoNotSave() {
        CHECKS.sentence("6: A method that is marked \"Undoable\" saves the state: no other method does");
        TestedPool pool = Pools.after("l0,1 s0,1");
        pool.read(0);
        pool.appendText('t');
        pool.clearText();
        pool.errorPosition();
        pool.save(0);
        Observation.of(pool);
        CHECKS.due("two states", pool.savedStates(), 2);
        pool.undo();
        CHECKS.due("undo takes one and adds none", pool.savedStates(), 1);
    }

    private static void sixAreSaved() {
        CHECKS.sentence("6: At most 6 states are saved; when a seventh state is saved, the oldest saved state is discarded.");
        for (int calls : new int[] {5, 6, 7, 12, 13, 100}) {
            TestedPool pool = new TestedPool();
            for (int i = 0; i < calls; i++) {
                pool.pass(1);
            }
            int kept = Math.min(calls, 6);
            CHECKS.due("after " + calls + " calls", pool.savedStates(), kept);
            for (int i = 1; i <= kept; i++) {
                CHECKS.due("remaining", pool.undo(), kept - i);
                CHECKS.due("time", pool.time(), calls - i);
            }
            CHECKS.badState("no more, after " + calls + " calls", pool, pool::undo);
        }
        TestedPool mixed = new TestedPool();
        Pools.does(mixed, "t1 t1 t1 t1 t1 t1 t1 t1");
        mixed.undo();
        mixed.undo();
        Pools.does(mixed, "t100 t100 t100");
        int[] times = {206, 106, 6, 5, 4, 3};
        for (int i = 0; i < 6; i++) {
            mixed.undo();
            CHECKS.due("old and new ones", mixed.time(), times[i]);
        }
        CHECKS.due("three were discarded", mixed.savedStates(), 0);
    }

    private static void twoSlots() {
        CHECKS.sentence("6: There are two slots, 0 and 1, which are empty at first.");
        TestedPool pool = Pools.after("t1");
        CHECKS.badState("slot 0", pool, () -> pool.restore(0));
        CHECKS.badState("slot 1", pool, () -> pool.restore(1));
        pool.save(0);
        CHECKS.badState("slot 1, slot 0 is filled", pool, () -> pool.restore(1));
        TestedPool other = Pools.after("t1");
        other.save(1);
        CHECKS.badState("slot 0, slot 1 is filled", other, () -> other.restore(0));
        other.pass(1);
        other.save(0);
        other.pass(1);
        CHECKS.due("each keeps its own", other.restore(1) * 10 + other.restore(0), 12);
        CHECKS.outOfBounds("no slot 2", other, () -> other.restore(2));
        CHECKS.outOfBounds("no slot -1", other, () -> other.restore(-1));
    }

    private static void savedStatesAreNotState() {
        CHECKS.sentence("6: Saved states and slots are not part of the state.");
        TestedPool pool = Pools.after("t1 t1");
        pool.save(0);
        Pools.does(pool, "t1 t1");
        pool.restore(0);
        CHECKS.due("restore leaves the saved states and adds one", pool.savedStates(), 5);
        CHECKS.due("the last is that before it", pool.undo() * 10 + pool.time(), 44);
        pool.undo();
        pool.undo();
        pool.undo();
        CHECKS.due("a slot stays when the time before it is restored", pool.time() * 10 + pool.restore(0), 12);
        pool.save(1);
        pool.undo();
        CHECKS.due("a slot that is filled later stays filled", pool.restore(1), 2);
        Pools.does(pool, "t1");
        pool.save(0);
        pool.restore(1);
        CHECKS.due("restore does not bring back the other slot", pool.restore(0), 3);
    }

    private static void textHoldsEighty() {
        CHECKS.sentence("7: The text buffer holds at most 80 characters, is empty at first, and is not part of the state.");
        TestedPool pool = new TestedPool();
        CHECKS.due("empty at first", pool.textLength(), 0);
        CHECKS.due("and not valid", pool.errorPosition(), 0);
        for (int length = 1; length <= 80; length++) {
            CHECKS.due("length", pool.appendText("t1;".charAt((length - 1) % 3)), length);
        }
        Hidden.unchanged(CHECKS, "the 81st", () -> Pools.withText("t1;".repeat(26) + "t1"), STATE, p -> p.appendText('1'));
        CHECKS.due("80 characters are a valid text", pool.errorPosition(), NONE);
        CHECKS.due("of 27 commands", pool.runText(), 27);
        CHECKS.due("each of which is executed", pool.time(), 27);
    }

    private static void textIsNotState() {
        CHECKS.sentence("7: is not part of the state.");
        TestedPool pool = new TestedPool();
        Pools.put(pool, "t7");
        pool.save(0);
        pool.runText();
        Pools.put(pool, "t1;t2");
        pool.undo();
        CHECKS.due("undo leaves the text", pool.textLength(), 5);
        pool.restore(0);
        CHECKS.due("restore leaves the text", pool.runText() * 10 + pool.time(), 23);
        pool.clearText();
        pool.restore(0);
        CHECKS.due("nor does it bring one back", pool.textLength(), 0);
    }

    private static void due(String text, int position) {
        CHECKS.due("'" + text + "'", Pools.withText(text).errorPosition(), position);
    }

    private static void oneOrMoreCommands() {
        CHECKS.sentence("7: A valid text consists of one or more commands, with one semicolon between two commands.");
        due("t1", NONE);
        due("t1;t1", NONE);
        due("t1;".repeat(26) + "d0", NONE);
        due("", 0);
        due(";", 0);
        due(";t1", 0);
        due("t1;", 3);
        due("t1;;t1", 3);
        due("t1t1", 2);
        due("t1,t1", 2);
        due("t1 t1", 2);
        due("t1; t1", 3);
    }

    private static void numbersWithoutLeadingZeros() {
        CHECKS.sentence("7: each <n> stands for a decimal number without leading zeros (0 is written as \"0\")");
        due("s0,0", NONE);
        due("s00,0", 2);
        due("s01,0", 2);
        due("s0,00", 4);
        due("s0,01", 4);
        due("l0,01", 3);
        due("t01", 1);
        due("o00", 2);
        due("d10", NONE);
        due("s10,10", NONE);
        due("t100", NONE);
        due("s+1,0", 1);
        due("s-1,0", 1);
        due("s0,-1", 3);
        due("d", 1);
        due("d;", 1);
        due("s,1", 1);
        due("s1,;", 3);
    }

    /** The greatest number is the last that a text may have: its end is valid, one more is refused at its last digit. */
    private static void bounds(String before, int most, boolean zero, String behind) {
        due(before + (zero ? 0 : 1) + behind, NONE);
        due(before + (most - 1) + behind, NONE);
        due(before + most + behind, NONE);
        due(before + (most + 1) + behind, before.length() + Integer.toString(most + 1).length() - 1);
        due(before + most + "0" + behind, before.length() + Integer.toString(most).length());
        due(before + "00" + behind, before.length() + (zero ? 1 : 0));
        due(before + "4294967297" + behind, before.length() + (most == 9999 ? 4 : most == 600 ? 3 : 1));
        if (!zero) {
            due(before + "0" + behind, before.length());
        }
        due(before + behind, before.length());
    }

    private static void commands() {
        CHECKS.sentence("7: \"s<n>,<n>\": store a page (0 to 29) with a value (0 to 9999);");
        bounds("s", 29, true, ",1");
        bounds("s1,", 9999, true, "");
        CHECKS.sentence("7: \"w<n>,<n>\": write a page (0 to 29) with a value (0 to 9999);");
        bounds("w", 29, true, ",1");
        bounds("w1,", 9999, true, "");
        CHECKS.sentence("7: \"d<n>\": remove a page (0 to 29);");
        bounds("d", 29, true, "");
        CHECKS.sentence("7: \"l<n>,<n>\": lend, by a host (0 to 5), a capacity (1 to 20);");
        bounds("l", 5, true, ",1");
        bounds("l1,", 20, false, "");
        CHECKS.sentence("7: \"r<n>,<n>\": recall, by a host (0 to 5), within a number of seconds (1 to 600);");
        bounds("r", 5, true, ",1");
        bounds("r1,", 600, false, "");
        CHECKS.sentence("7: \"o<n>\": disconnect a host (0 to 5);");
        bounds("o", 5, true, "");
        CHECKS.sentence("7: \"c<n>\": reconnect a host (0 to 5);");
        bounds("c", 5, true, "");
        CHECKS.sentence("7: \"x<n>\": crash a host (0 to 5);");
        bounds("x", 5, true, "");
        CHECKS.sentence("7: \"t<n>\": let seconds pass (1 to 600).");
        bounds("t", 600, false, "");
        // Behind another command every bound is the same: nothing of the command before it is left.
        bounds("r5,600;s", 29, true, ",1");
        bounds("s29,9999;l1,", 20, false, "");
        bounds("l5,20;d", 29, true, "");
        bounds("d29;x", 5, true, "");
        bounds("s29,9999;t", 600, false, "");
    }

    private static void signsThatMayFollow() {
        CHECKS.sentence("7: The error position of a text is the smallest index i such that no valid text of any length begins with the characters 0 to i of the text.");
        String digits = "0123456789";
        String[][] following = {
            {"", "swdlrocxt"}, {"t1;", "swdlrocxt"},
            {"s", digits}, {"s0", ","}, {"s1", digits + ","}, {"s2", digits + ","}, {"s3", ","}, {"s9", ","}, {"s10", ","}, {"s29", ","},
            {"s0,", digits}, {"s0,0", ";"}, {"s0,1", digits + ";"}, {"s0,9", digits + ";"}, {"s0,99", digits + ";"},
            {"s0,999", digits + ";"}, {"s0,1000", ";"}, {"s0,9999", ";"},
            {"w", digits}, {"w2", digits + ","}, {"w3", ","}, {"w29,", digits}, {"w29,999", digits + ";"}, {"w29,9999", ";"},
            {"d", digits}, {"d0", ";"}, {"d1", digits + ";"}, {"d2", digits + ";"}, {"d3", ";"}, {"d29", ";"},
            {"l", "012345"}, {"l0", ","}, {"l5", ","}, {"l5,", "123456789"}, {"l5,1", digits + ";"}, {"l5,2", "0;"}, {"l5,3", ";"},
            {"l5,9", ";"}, {"l5,10", ";"}, {"l5,19", ";"}, {"l5,20", ";"},
            {"r", "012345"}, {"r0", ","}, {"r5", ","}, {"r0,", "123456789"}, {"r0,1", digits + ";"}, {"r0,5", digits + ";"},
            {"r0,6", digits + ";"}, {"r0,7", digits + ";"}, {"r0,59", digits + ";"}, {"r0,60", "0;"}, {"r0,61", ";"}, {"r0,600", ";"},
            {"r0,100", ";"},
            {"o", "012345"}, {"o0", ";"}, {"o5", ";"}, {"c", "012345"}, {"c0", ";"}, {"c5", ";"}, {"x", "012345"}, {"x0", ";"}, {"x5", ";"},
            {"t", "123456789"}, {"t1", digits + ";"}, {"t6", digits + ";"}, {"t9", digits + ";"}, {"t59", digits + ";"}, {"t60", "0;"},
            {"t61", ";"}, {"t99", ";"}, {"t100", ";"}, {"t600", ";"},
        };
        for (String[] row : following) {
            for (char sign = 32; sign <= 126; sign++) {
                String text = row[0] + sign;
                boolean refused = Pools.withText(text).errorPosition() == row[0].length();
                CHECKS.due("'" + text + "' is refused at its last sign", refused, row[1].indexOf(sign) < 0);
                if (row[1].indexOf(sign) < 0) {
                    due(text + ";t1", row[0].length());
                }
            }
            due(row[0], row[1].indexOf(';') >= 0 ? NONE : row[0].length());
        }
        // The smallest of several, and valid texts of more than 80 characters that begin with a full buffer.
        due("s30,99999;q", 2);
        due("t1;".repeat(26) + "s2", 80);
        due("t1;".repeat(26) + "t;", 79);
        due("t1;".repeat(26) + "zt", 78);
        due("z" + "t1;".repeat(26), 0);
    }

    private static void endsTooEarly() {
        CHECKS.sentence("7: If there is no such index and the text is not valid (it ends too early, or it is empty), the error position is the length of the text.");
        due("", 0);
        for (String text : new String[] {"s", "s2", "s29", "s29,", "w", "w0", "w0,", "d", "l", "l0", "l0,", "r", "r5", "r5,", "o", "c", "x", "t"}) {
            due(text, text.length());
            due("t60;" + text, text.length() + 4);
        }
        due("d1;", 3);
        due("t1;".repeat(26), 78);
        due("t60;".repeat(20), 80);
        due("t1;".repeat(26) + "s", 79);
    }

    private static void refusedCallsChangeNothing() {
        CHECKS.sentence("8: A call that throws an exception changes nothing.");
        Hidden.PoolCall[] bounds = {
            p -> p.store(30, 1), p -> p.write(-1, 1), p -> p.read(30), p -> p.remove(30), p -> p.lend(6, 1), p -> p.recall(-1, 1),
            p -> p.disconnect(6), p -> p.reconnect(6), p -> p.crash(6), p -> p.save(2), p -> p.restore(-1), p -> p.status(30),
            p -> p.copies(30), p -> p.mode(6), p -> p.isConnected(6) ? 1 : 0, p -> p.usedRoom(6), p -> p.freeRoom(6),
            p -> p.deadlineIn(6), p -> p.replica(6, 0), p -> p.replica(0, 30),
        };
        Hidden.PoolCall[] arguments = {
            p -> p.store(3, 10000), p -> p.write(0, -1), p -> p.lend(5, 21), p -> p.recall(0, 601), p -> p.pass(601),
            p -> p.setTransferTime(61), p -> p.appendText(127), p -> p.countStatus(3), p -> p.transfer(4), p -> p.lostWithout(64),
            p -> p.lostIn(601),
        };
        Hidden.PoolCall[] states = {
            p -> p.store(0, 1), p -> p.write(29, 1), p -> p.read(29), p -> p.remove(29), p -> p.lend(0, 1), p -> p.recall(1, 1),
            p -> p.disconnect(1), p -> p.reconnect(0), p -> p.crash(5), p -> p.appendText('1'),
        };
        refused("IndexOutOfBounds ", BOUNDS, bounds);
        refused("IllegalArgument ", ARGUMENT, arguments);
        refused("IllegalState ", STATE, states);
    }

    private static void refused(String what, Class<?> kind, Hidden.PoolCall[] calls) {
        for (int i = 0; i < calls.length; i++) {
            Hidden.unchanged(CHECKS, what + i, Terms6To8Test::busy, kind, calls[i]);
        }
    }

    private static void refusedAtTheEdges() {
        CHECKS.sentence("8: A call that throws an exception changes nothing. (where the pool is empty, full or at its limit)");
        Hidden.unchanged(CHECKS, "undo of nothing", () -> emptied("l0,1"), STATE, TestedPool::undo);
        Hidden.unchanged(CHECKS, "restore of an empty slot", () -> Pools.after("l0,1 s0,1"), STATE, p -> p.restore(1));
        Hidden.unchanged(CHECKS, "store without room", () -> Pools.after("l0,1 s0,1"), STATE, p -> p.store(1, 1));
        Hidden.unchanged(CHECKS, "read of an UNAVAILABLE page", () -> Pools.after("l0,1 s0,1 o0"), STATE, p -> p.read(0));
        Hidden.unchanged(CHECKS, "write of an UNAVAILABLE page", () -> Pools.after("l0,1 s0,1 o0"), STATE, p -> p.write(0, 2));
        Hidden.unchanged(CHECKS, "store of an UNAVAILABLE page", () -> Pools.after("l0,1 s0,1 o0 l1,1"), STATE, p -> p.store(0, 2));
        Hidden.unchanged(CHECKS, "pass beyond the limit", () -> atEnd("l0,1"), STATE, p -> p.pass(1));
        Hidden.unchanged(CHECKS, "runText of a text that is not valid", Terms6To8Test::busyWithHalfAText, STATE, TestedPool::runText);
        Hidden.unchanged(CHECKS, "runText of an empty text", () -> Pools.after("l0,1 s0,1"), STATE, TestedPool::runText);
    }

    /** With nothing saved, but with a host to crash. */
    private static TestedPool emptied(String commands) {
        TestedPool pool = Pools.after(commands);
        pool.save(0);
        pool.undo();
        pool.restore(0);
        pool.save(1);
        pool.undo();
        return pool;
    }

    private static TestedPool atEnd(String commands) {
        TestedPool pool = Pools.at(1000000);
        Pools.does(pool, commands);
        return pool;
    }

    private static void firstNamedIsThrown() {
        CHECKS.sentence("8: If several exceptions apply to a call, the one that is named first in the throws clause of the method is thrown.");
        TestedPool none = new TestedPool();
        CHECKS.outOfBounds("store: all three", none, () -> none.store(30, 10000));
        CHECKS.outOfBounds("store: bounds and state", none, () -> none.store(-1, 0));
        CHECKS.badArgument("store: argument and state", none, () -> none.store(0, -1));
        CHECKS.outOfBounds("write: all three", none, () -> none.write(-1, -1));
        CHECKS.outOfBounds("write: bounds and state", none, () -> none.write(30, 0));
        CHECKS.badArgument("write: argument and state", none, () -> none.write(0, 10000));
        CHECKS.outOfBounds("read: bounds and state", none, () -> none.read(30));
        CHECKS.outOfBounds("remove: bounds and state", none, () -> none.remove(-1));
        CHECKS.outOfBounds("recall: all three", none, () -> none.recall(6, 0));
        CHECKS.outOfBounds("recall: bounds and state", none, () -> none.recall(-1, 1));
        CHECKS.badArgument("recall: argument and state", none, () -> none.recall(0, 601));
        CHECKS.outOfBounds("disconnect: bounds and state", none, () -> none.disconnect(6));
        CHECKS.outOfBounds("reconnect: bounds and state", none, () -> none.reconnect(6));
        CHECKS.outOfBounds("crash: bounds and state", none, () -> none.crash(-1));
        CHECKS.outOfBounds("restore: bounds and state", none, () -> none.restore(2));
        TestedPool lending = Pools.after("l0,1 l1,1 l2,1 l3,1 l4,1 l5,1");
        CHECKS.outOfBounds("lend: all three", lending, () -> lending.lend(6, 21));
        CHECKS.outOfBounds("lend: bounds and state", lending, () -> lending.lend(-1, 1));
        CHECKS.badArgument("lend: argument and state", lending, () -> lending.lend(0, 0));
        TestedPool end = Pools.at(1000000);
        CHECKS.badArgument("pass: argument and state", end, () -> end.pass(601));
        TestedPool full = Pools.withText("t".repeat(80));
        CHECKS.badArgument("appendText: argument and state", full, () -> full.appendText(31));
    }
}
