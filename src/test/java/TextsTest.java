/** Promises 13 to 16 and 37: texts. */
public final class TextsTest {
    private static final Checks CHECKS = new Checks();
    private static final int NONE = RemoteMemoryPool.NONE;

    public static void main(String[] args) {
        promise13();
        promise14();
        promise15Valid();
        promise15Wrong();
        promise15TooShort();
        promise16();
        promise16Stops();
        promise16Refuses();
        promise37();
        CHECKS.end();
    }

    private static void put(TestedPool pool, String text) {
        pool.clearText();
        for (char sign : text.toCharArray()) {
            pool.appendText(sign);
        }
    }

    private static TestedPool with(String text) {
        TestedPool pool = new TestedPool();
        put(pool, text);
        return pool;
    }

    private static void promise13() {
        TestedPool pool = new TestedPool();
        CHECKS.due("the first", pool.appendText(32), 1);
        CHECKS.due("the second", pool.appendText(126), 2);
        CHECKS.badArgument("31", pool, () -> pool.appendText(31));
        CHECKS.badArgument("127", pool, () -> pool.appendText(127));
        CHECKS.badArgument("a number beyond a char", pool, () -> pool.appendText(65536 + 's'));
        CHECKS.badArgument("-1", pool, () -> pool.appendText(-1));
        for (int length = 3; length <= 80; length++) {
            CHECKS.due("up to 80", pool.appendText('s'), length);
        }
        CHECKS.badState("the 81st", pool, () -> pool.appendText('s'));
        CHECKS.badArgument("the range goes first", pool, () -> pool.appendText(31));
        CHECKS.due("not undoable", pool.savedStates(), 0);
        pool.clearText();
        CHECKS.due("room again", pool.appendText('s'), 1);
    }

    private static void promise14() {
        TestedPool pool = with("t1");
        CHECKS.due("two", pool.clearText(), 2);
        CHECKS.due("empty", pool.clearText(), 0);
        CHECKS.due("not undoable", pool.savedStates(), 0);
        CHECKS.due("empty is not valid", pool.errorPosition(), 0);
        put(pool, "o1");
        CHECKS.due("nothing of the old text is left", pool.errorPosition(), NONE);
    }

    private static void promise15Valid() {
        String[] valid = {
            "s0,0", "s29,9999", "s10,10", "w0,0", "w29,9999", "d0", "d29", "d9", "l0,1", "l5,20", "l5,19", "r0,1", "r5,600",
            "r5,599", "o0", "o5", "c0", "c5", "x0", "x5", "t1", "t600", "t60", "t599", "s0,0;w0,1;d0;l0,1;r0,1;o0;c0;x0;t1", "t1;t1;t1",
            "t1;".repeat(25) + "s0,10",
        };
        for (String text : valid) {
            CHECKS.due(text, with(text).errorPosition(), NONE);
        }
    }

    private static void promise15Wrong() {
        wrong("a", 0);
        wrong("S0,0", 0);
        wrong(" t1", 0);
        wrong("1", 0);
        wrong(";", 0);
        wrong(",", 0);
        wrong("s,", 1);
        wrong("s-1,0", 1);
        wrong("s30,0", 2);
        wrong("s299,0", 3);
        wrong("s00,0", 2);
        wrong("s01,0", 2);
        wrong("s0;", 2);
        wrong("s0,;", 3);
        wrong("s0,00", 4);
        wrong("s0,10000", 7);
        wrong("s0,99990", 7);
        wrong("s0,1,", 4);
        wrong("w30,", 2);
        wrong("w1,1x", 4);
        wrong("d30", 2);
        wrong("d1,", 2);
        wrong("d;", 1);
        wrong("l6,1", 1);
        wrong("l00", 2);
        wrong("l10", 2);
        wrong("l0,0", 3);
        wrong("l0,21", 4);
        wrong("l0,30", 4);
        wrong("l0,200", 5);
        wrong("l0;", 2);
        wrong("r6", 1);
        wrong("r0,0", 3);
        wrong("r0,601", 5);
        wrong("r0,610", 5);
        wrong("r0,700", 5);
        wrong("r0,6000", 6);
        wrong("o6", 1);
        wrong("o0,", 2);
        wrong("o01", 2);
        wrong("c7", 1);
        wrong("x9", 1);
        wrong("x0x", 2);
        wrong("t0", 1);
        wrong("t601", 3);
        wrong("t1000", 4);
        wrong("t1,", 2);
        wrong("t1;;", 3);
        wrong("t1; t1", 3);
        wrong("t1;t1;z", 6);
        wrong("t1 ", 2);
        wrong("t1;s30,1;q", 5);
    }

    private static void promise15TooShort() {
        wrong("", 0);
        wrong("s", 1);
        wrong("s2", 2);
        wrong("s29", 3);
        wrong("s29,", 4);
        wrong("l0", 2);
        wrong("r0,", 3);
        wrong("w0", 2);
        wrong("t", 1);
        wrong("x", 1);
        wrong("t1;", 3);
        wrong("t1;d", 4);
        wrong("t1;".repeat(26) + "s2", 80);
        wrong("t1;".repeat(26) + "t;", 79);
    }

    private static void wrong(String text, int position) {
        TestedPool pool = with(text);
        CHECKS.due(text, pool.errorPosition(), position);
        CHECKS.badState("run " + text, pool, pool::runText);
    }

    private static void promise16() {
        TestedPool pool = with("l0,2;l1,20;s3,77;w3,78;s12,5;o1;c1;r0,9;d12;x1;t600");
        CHECKS.due("all of them", pool.runText(), 11);
        CHECKS.due("as one call", pool.savedStates(), 1);
        CHECKS.due("time", pool.time(), 600);
        CHECKS.due("the page is lost", pool.status(3), RemoteMemoryPool.LOST);
        CHECKS.due("the other is removed", pool.status(12), NONE);
        CHECKS.due("away", pool.mode(0) + pool.mode(1), 0);
        CHECKS.due("the text stays", pool.textLength(), 51);
        pool.undo();
        CHECKS.due("all undone", pool.time() + pool.mode(0), 0);
        CHECKS.due("no page", pool.status(3), NONE);

        TestedPool reads = with("l0,2;l5,3;s3,77;w3,9078");
        CHECKS.due("four", reads.runText(), 4);
        CHECKS.due("written", reads.read(3), 9078);
        CHECKS.due("capacities", reads.freeRoom(0) * 10 + reads.freeRoom(5), 12);
        put(reads, "r0,600;o5");
        CHECKS.due("two", reads.runText(), 2);
        CHECKS.due("recalled", reads.deadlineIn(0), 600);
        CHECKS.due("disconnected", reads.isConnected(5), false);
        put(reads, "c5");
        CHECKS.due("one", reads.runText(), 1);
        CHECKS.due("connected", reads.isConnected(5), true);
        put(reads, "t20");
        CHECKS.due("one", reads.runText(), 1);
        CHECKS.due("later", reads.deadlineIn(0), 580);
    }

    private static void promise16Stops() {
        String[] stopping = {
            "l0,5;t1;s0,1;s0,2;t9", "l0,5;t1;s0,1;w1,1;t9", "l0,5;t1;s0,1;d1;t9", "l0,5;t1;s0,1;l0,1;t9", "l0,5;t1;s0,1;r1,1;t9",
            "l0,5;t1;s0,1;o1;t9", "l0,5;t1;s0,1;c0;t9", "l0,5;t1;s0,1;x1;t9",
        };
        for (String text : stopping) {
            TestedPool pool = with(text);
            CHECKS.due(text, pool.runText(), 3);
            CHECKS.due(text + ": time", pool.time(), 1);
            CHECKS.due(text + ": what is done stays", pool.read(0), 1);
            CHECKS.due(text + ": saved", pool.savedStates(), 1);
        }
        TestedPool none = with("d0;t5");
        CHECKS.due("the first is refused", none.runText(), 0);
        CHECKS.due("saved, though nothing is done", none.savedStates(), 1);
        CHECKS.due("nothing is done", none.time(), 0);
        TestedPool full = with("s0,1");
        CHECKS.due("no host lends", full.runText(), 0);
    }

    private static void promise16Refuses() {
        TestedPool pool = with("l0,1;s0");
        CHECKS.badState("not valid", pool, pool::runText);
        CHECKS.due("nothing is executed", pool.mode(0), 0);
        pool.clearText();
        CHECKS.badState("empty", pool, pool::runText);
        CHECKS.due("nothing is saved", pool.savedStates(), 0);
    }

    private static void promise37() {
        TestedPool pool = new TestedPool();
        CHECKS.due("empty", pool.textLength(), 0);
        put(pool, "t600");
        CHECKS.due("four", pool.textLength(), 4);
        pool.runText();
        pool.undo();
        CHECKS.due("not part of the state", pool.textLength(), 4);
        pool.clearText();
        CHECKS.due("cleared", pool.textLength(), 0);
    }
}
