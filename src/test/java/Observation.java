/** All that the queries of a pool show, as one text. They are asked of twins, so that the pool keeps its calls. */
final class Observation {
    static String of(TestedPool pool) {
        StringBuilder shown = new StringBuilder();
        pages(pool.twin(), shown);
        hosts(pool.twin(), 0, 3, shown);
        hosts(pool.twin(), 3, 6, shown);
        forecasts(pool.twin(), shown);
        return shown.toString();
    }

    private static void pages(TestedPool pool, StringBuilder shown) {
        for (int page = 0; page < 30; page++) {
            int copies = pool.copies(page);
            shown.append(" p").append(pool.status(page)).append(',').append(copies);
            if (copies != 0) {
                shown.append('=').append(pool.read(page));
            }
        }
    }

    private static void hosts(TestedPool pool, int first, int end, StringBuilder shown) {
        for (int host = first; host < end; host++) {
            shown.append(" h").append(pool.mode(host)).append(pool.isConnected(host));
            shown.append(pool.usedRoom(host)).append('/').append(pool.freeRoom(host));
            shown.append('@').append(pool.deadlineIn(host)).append(':');
            for (int page = 0; page < 30; page++) {
                shown.append(pool.replica(host, page));
            }
        }
    }

    private static void forecasts(TestedPool pool, StringBuilder shown) {
        for (int part = 0; part < 4; part++) {
            shown.append(" t").append(pool.transfer(part));
        }
        for (int status = -2; status <= 2; status++) {
            shown.append(" c").append(status == -1 ? 0 : pool.countStatus(status));
        }
        for (int hosts = 0; hosts < 64; hosts++) {
            shown.append(hosts == 0 ? " w" : ",").append(pool.lostWithout(hosts));
        }
        for (int seconds : new int[] {1, 7, 60, 600}) {
            shown.append(" l").append(pool.lostIn(seconds));
        }
        shown.append(" pair").append(pool.worstPair()).append(" rest").append(pool.restsIn());
        shown.append(" done").append(pool.completedTransfers()).append(" time").append(pool.time());
        shown.append(" saved").append(pool.savedStates()).append(" text").append(pool.textLength());
        shown.append(" error").append(pool.errorPosition());
    }

    private Observation() {
    }
}
