/** Promises 17 to 19 and 36: undo and slots. */
public final class UndoTest {
    private static final Checks CHECKS = new Checks();

    public static void main(String[] args) {
        promise17();
        promise17EachCall();
        promise18();
        promise19();
        promise36();
        CHECKS.end();
    }

    private static void promise17() {
        TestedPool pool = new TestedPool();
        CHECKS.badState("nothing is saved", pool, pool::undo);
        for (int seconds = 1; seconds <= 8; seconds++) {
            pool.pass(seconds);
        }
        CHECKS.due("six are saved", pool.savedStates(), 6);
        int[] times = {28, 21, 15, 10, 6, 3};
        for (int i = 0; i < 6; i++) {
            CHECKS.due("that remain", pool.undo(), 5 - i);
            CHECKS.due("time", pool.time(), times[i]);
        }
        CHECKS.badState("the oldest are discarded", pool, pool::undo);
        pool.pass(1);
        CHECKS.due("after new calls", pool.undo(), 0);
        CHECKS.due("time", pool.time(), 3);
    }

    private interface PoolCall {
        int on(TestedPool pool);
    }

    private static TestedPool busy() {
        TestedPool pool = new TestedPool();
        for (char sign : "l0,4;l1,4;l2,4;s0,1;s1,2;r0,50;o1;w0,3;t1".toCharArray()) {
            pool.appendText(sign);
        }
        CHECKS.due("executed", pool.runText(), 9);
        pool.save(1);
        return pool;
    }

    /** After each undoable call, undo brings back all that the queries show. */
    private static void promise17EachCall() {
        PoolCall[] calls = {
            pool -> pool.store(2, 3), pool -> pool.write(0, 3), pool -> pool.remove(1), pool -> pool.lend(4, 20),
            pool -> pool.recall(2, 9), pool -> pool.disconnect(0), pool -> pool.reconnect(1), pool -> pool.crash(0),
            pool -> pool.pass(77), pool -> pool.setTransferTime(9), pool -> pool.restore(1), TestedPool::runText,
        };
        for (int i = 0; i < calls.length; i++) {
            TestedPool pool = busy();
            String before = Observation.of(pool);
            calls[i].on(pool);
            CHECKS.due("saved by call " + i, pool.savedStates(), 2);
            CHECKS.due("undo of call " + i, pool.undo(), 1);
            CHECKS.due("undone call " + i, Observation.of(pool), before);
            CHECKS.due("the transfer time after call " + i, pool.setTransferTime(1), 5);
        }
        TestedPool pool = busy();
        pool.read(0);
        pool.save(0);
        pool.appendText('t');
        pool.clearText();
        pool.lostIn(9);
        pool.restsIn();
        CHECKS.due("other calls save nothing", pool.savedStates(), 1);
    }

    private static void promise18() {
        TestedPool pool = PagesTest.lending(1);
        pool.pass(5);
        CHECKS.due("the time", pool.save(0), 5);
        pool.pass(6);
        CHECKS.due("the other slot", pool.save(1), 11);
        CHECKS.due("the first is kept", pool.restore(0), 5);
        pool.crash(0);
        CHECKS.due("replaces", pool.save(1), 5);
        CHECKS.due("what the slot held", pool.restore(1), 5);
        CHECKS.due("the state at that time", pool.mode(0), RemoteMemoryPool.AWAY);
        CHECKS.outOfBounds("slot -1", pool, () -> pool.save(-1));
        CHECKS.outOfBounds("slot 2", pool, () -> pool.save(2));
        CHECKS.outOfBounds("slot 32", pool, () -> pool.save(32));
        pool.undo();
        CHECKS.due("undo leaves the slots", pool.restore(1), 5);
    }

    private static void promise19() {
        TestedPool pool = PagesTest.lending(2, 2);
        CHECKS.badState("slot 0 is empty", pool, () -> pool.restore(0));
        pool.store(0, 5);
        pool.disconnect(0);
        pool.save(0);
        CHECKS.badState("slot 1 is empty", pool, () -> pool.restore(1));
        CHECKS.outOfBounds("slot -1", pool, () -> pool.restore(-1));
        CHECKS.outOfBounds("slot 2", pool, () -> pool.restore(2));
        CHECKS.outOfBounds("slot 32", pool, () -> pool.restore(32));
        pool.write(0, 6);
        pool.pass(9);
        int saved = pool.savedStates();
        CHECKS.due("the time of the slot", pool.restore(0), 0);
        CHECKS.due("undoable", pool.savedStates(), saved + 1 > 6 ? 6 : saved + 1);
        CHECKS.due("the value of then", pool.read(0), 5);
        CHECKS.due("fresh as then", pool.replica(0, 0), 1);
        pool.write(0, 7);
        CHECKS.due("the slot keeps its copy", pool.restore(0), 0);
        CHECKS.due("which later calls do not touch", pool.read(0), 5);
        pool.undo();
        CHECKS.due("undone", pool.read(0), 7);
        pool.undo();
        pool.undo();
        CHECKS.due("undone further", pool.time() * 10 + pool.read(0), 96);
    }

    private static void promise36() {
        TestedPool pool = new TestedPool();
        for (int i = 1; i <= 9; i++) {
            pool.setTransferTime(i);
            CHECKS.due("saved", pool.savedStates(), Math.min(i, 6));
        }
        pool.undo();
        CHECKS.due("after undo", pool.savedStates(), 5);
        pool.save(0);
        CHECKS.due("save saves no state", pool.savedStates(), 5);
        pool.restore(0);
        CHECKS.due("restore does, and saved states are no part of the state", pool.savedStates(), 6);
        TestedPool refused = new TestedPool();
        CHECKS.badArgument("a refused call", refused, () -> refused.pass(0));
        CHECKS.due("saves nothing", refused.savedStates(), 0);
    }
}
