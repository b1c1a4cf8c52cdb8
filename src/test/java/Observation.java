/** All that the queries of a pool show, as one text. */
final class Observation {
    static String of(RemoteMemoryPool pool) {
        StringBuilder shown = new StringBuilder();
        for (int page = 0; page < 30; page++) {
            shown.append(" p").append(pool.status(page)).append(',').append(pool.copies(page));
            if (pool.copies(page) != 0) {
                shown.append('=').append(pool.read(page));
            }
        }
        for (int host = 0; host < 6; host++) {
            shown.append(" h").append(pool.mode(host)).append(pool.isConnected(host));
            shown.append(pool.usedRoom(host)).append('/').append(pool.freeRoom(host));
            shown.append('@').append(pool.deadlineIn(host)).append(':');
            for (int page = 0; page < 30; page++) {
                shown.append(pool.replica(host, page));
            }
        }
        for (int part = 0; part < 4; part++) {
            shown.append(" t").append(pool.transfer(part));
        }
        for (int status = -2; status <= 2; status++) {
            shown.append(" c").append(status == -1 ? 0 : pool.countStatus(status));
        }
        for (int hosts = 0; hosts < 64; hosts++) {
            shown.append(hosts == 0 ? " w" : ",").append(pool.lostWithout(hosts));
        }
        for (int seconds : new int[] {1, 7, 60, 600}) {
            shown.append(" l").append(pool.lostIn(seconds));
        }
        shown.append(" pair").append(pool.worstPair()).append(" rest").append(pool.restsIn());
        shown.append(" done").append(pool.completedTransfers()).append(" time").append(pool.time());
        shown.append(" saved").append(pool.savedStates()).append(" text").append(pool.textLength());
        shown.append(" error").append(pool.errorPosition());
        return shown.toString();
    }

    private Observation() {
    }
}
