/** Counts the answers that are not the ones that are due, and ends a test with exit code 1 if there was one. */
final class Checks {
    interface Call {
        long answer();
    }

    private int wrong = 0;
    private String sentence = "";

    /** The checks from here on are for this sentence of the document. */
    void sentence(String words) {
        sentence = "[" + words + "] ";
    }

    void due(String what, long got, long want) {
        if (got != want) {
            fail(what + " answered " + got + ", due is " + want);
        }
    }

    void due(String what, boolean got, boolean want) {
        due(what, got ? 1 : 0, want ? 1 : 0);
    }

    void due(String what, String got, String want) {
        if (!got.equals(want)) {
            fail(what + " answered " + got + ", due is " + want);
        }
    }

    void outOfBounds(String what, TestedPool pool, Call call) {
        refused(what, pool, IndexOutOfBoundsException.class, call);
    }

    void badArgument(String what, TestedPool pool, Call call) {
        refused(what, pool, IllegalArgumentException.class, call);
    }

    void badState(String what, TestedPool pool, Call call) {
        refused(what, pool, IllegalStateException.class, call);
    }

    /** The call throws just this exception, and nothing that a query shows has changed. */
    private void refused(String what, TestedPool pool, Class<?> kind, Call call) {
        String before = Observation.of(pool);
        try {
            fail(what + " answered " + call.answer() + ", due is " + kind.getSimpleName());
        } catch (RuntimeException e) {
            if (e.getClass() != kind) {
                fail(what + " threw " + e.getClass().getSimpleName() + ", due is " + kind.getSimpleName());
            }
        }
        due(what + ": the pool afterwards", Observation.of(pool), before);
    }

    void fail(String line) {
        wrong++;
        if (wrong <= 40) {
            System.out.println(sentence + line);
        }
    }

    void end() {
        if (wrong > 0) {
            System.out.println(wrong + " wrong");
            System.exit(1);
        }
    }
}
