import java.util.ArrayList;
import java.util.List;

/**
 * A RemoteMemoryPool that keeps the calls that it has had. The document leaves free what an object answers
 * after its 512th call: a test that goes beyond is ended here, and a long look at a pool is taken at twins,
 * new objects that have had the same calls.
 */
final class TestedPool {
    private static final int MOST_CALLS = 512;

    private interface Call {
        int on(RemoteMemoryPool pool);
    }

    private final RemoteMemoryPool pool = new RemoteMemoryPool();
    private final List<Call> calls = new ArrayList<>();

    /** A new object after the same calls; those that were refused are refused once more. */
    TestedPool twin() {
        TestedPool twin = new TestedPool();
        for (Call call : calls) {
            try {
                twin.answer(call);
            } catch (IndexOutOfBoundsException | IllegalArgumentException | IllegalStateException e) {
                continue;
            }
        }
        return twin;
    }

    /** How many more calls a test may make. */
    int callsLeft() {
        return MOST_CALLS - calls.size();
    }

    private int answer(Call call) {
        if (callsLeft() == 0) {
            throw new AssertionError("a test uses an object for more than 512 calls");
        }
        calls.add(call);
        return call.on(pool);
    }

    int store(int page, int value) {
        return answer(p -> p.store(page, value));
    }

    int write(int page, int value) {
        return answer(p -> p.write(page, value));
    }

    int read(int page) {
        return answer(p -> p.read(page));
    }

    int remove(int page) {
        return answer(p -> p.remove(page));
    }

    int lend(int host, int capacity) {
        return answer(p -> p.lend(host, capacity));
    }

    int recall(int host, int seconds) {
        return answer(p -> p.recall(host, seconds));
    }

    int disconnect(int host) {
        return answer(p -> p.disconnect(host));
    }

    int reconnect(int host) {
        return answer(p -> p.reconnect(host));
    }

    int crash(int host) {
        return answer(p -> p.crash(host));
    }

    int pass(int seconds) {
        return answer(p -> p.pass(seconds));
    }

    int setTransferTime(int seconds) {
        return answer(p -> p.setTransferTime(seconds));
    }

    int appendText(int character) {
        return answer(p -> p.appendText(character));
    }

    int clearText() {
        return answer(RemoteMemoryPool::clearText);
    }

    int errorPosition() {
        return answer(RemoteMemoryPool::errorPosition);
    }

    int runText() {
        return answer(RemoteMemoryPool::runText);
    }

    int undo() {
        return answer(RemoteMemoryPool::undo);
    }

    int save(int slot) {
        return answer(p -> p.save(slot));
    }

    int restore(int slot) {
        return answer(p -> p.restore(slot));
    }

    int status(int page) {
        return answer(p -> p.status(page));
    }

    int copies(int page) {
        return answer(p -> p.copies(page));
    }

    int countStatus(int status) {
        return answer(p -> p.countStatus(status));
    }

    int mode(int host) {
        return answer(p -> p.mode(host));
    }

    boolean isConnected(int host) {
        return answer(p -> p.isConnected(host) ? 1 : 0) == 1;
    }

    int usedRoom(int host) {
        return answer(p -> p.usedRoom(host));
    }

    int freeRoom(int host) {
        return answer(p -> p.freeRoom(host));
    }

    int deadlineIn(int host) {
        return answer(p -> p.deadlineIn(host));
    }

    int replica(int host, int page) {
        return answer(p -> p.replica(host, page));
    }

    int transfer(int part) {
        return answer(p -> p.transfer(part));
    }

    int completedTransfers() {
        return answer(RemoteMemoryPool::completedTransfers);
    }

    int time() {
        return answer(RemoteMemoryPool::time);
    }

    int lostWithout(int hosts) {
        return answer(p -> p.lostWithout(hosts));
    }

    int worstPair() {
        return answer(RemoteMemoryPool::worstPair);
    }

    int lostIn(int seconds) {
        return answer(p -> p.lostIn(seconds));
    }

    int restsIn() {
        return answer(RemoteMemoryPool::restsIn);
    }

    int savedStates() {
        return answer(RemoteMemoryPool::savedStates);
    }

    int textLength() {
        return answer(RemoteMemoryPool::textLength);
    }
}
