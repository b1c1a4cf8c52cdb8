/** What no query shows, but later calls: the saved states, the slots, the transfer time and the text. It uses the pool up. */
final class Hidden {
    interface PoolCall {
        long on(TestedPool pool);
    }

    interface Maker {
        TestedPool make();
    }

    /** The call throws this exception, and neither the queries nor any later call tell that it has been made. */
    static void unchanged(Checks checks, String what, Maker maker, Class<?> kind, PoolCall call) {
        for (int view = 0; view < 2; view++) {
            TestedPool pool = maker.make();
            try {
                checks.fail(what + " answered " + call.on(pool) + ", due is " + kind.getSimpleName());
            } catch (RuntimeException e) {
                checks.due(what, e.getClass().getSimpleName(), kind.getSimpleName());
            }
            checks.due(what + ": the pool afterwards", of(pool, view), of(maker.make(), view));
        }
    }

    /** The call does not throw, and nothing tells that it has been made. */
    static void unchanged(Checks checks, String what, Maker maker, PoolCall call) {
        for (int view = 0; view < 2; view++) {
            TestedPool pool = maker.make();
            call.on(pool);
            checks.due(what + ": the pool afterwards", of(pool, view), of(maker.make(), view));
        }
    }

    private static String of(TestedPool pool, int view) {
        return view == 0 ? savedStates(pool) : slotsAndText(pool);
    }

    private static String savedStates(TestedPool pool) {
        StringBuilder shown = new StringBuilder(Observation.of(pool));
        while (pool.savedStates() > 0) {
            shown.append("\n undo ").append(pool.undo()).append(Observation.of(pool));
        }
        return shown.toString();
    }

    private static String slotsAndText(TestedPool pool) {
        StringBuilder shown = new StringBuilder(Observation.of(pool));
        shown.append("\n transfer time ").append(pool.setTransferTime(60));
        for (int slot = 0; slot < 2; slot++) {
            int number = slot;
            shown.append("\n slot ").append(told(pool, p -> p.restore(number))).append(Observation.of(pool));
            shown.append(" transfer time ").append(pool.setTransferTime(59));
        }
        for (int i = 0; i < 2; i++) {
            shown.append("\n text ").append(told(pool, TestedPool::runText)).append(Observation.of(pool));
            shown.append(" longer ").append(told(pool, p -> p.appendText('3')));
        }
        return shown.append(" length ").append(pool.clearText()).toString();
    }

    private static String told(TestedPool pool, PoolCall call) {
        try {
            return Long.toString(call.on(pool));
        } catch (IllegalStateException e) {
            return "refused";
        }
    }

    private Hidden() {
    }
}
