import java.util.Random;

/**
 * Runs of calls, the same at each start, on the program and on PlainPool: every answer and every query must agree.
 * Each third run has texts; it is shorter, since a text takes a call for each of its characters.
 */
public final class RandomRunsTest {
    private static final String LETTERS = "swdlrocxt";
    private static final int RUNS = 240;
    private static final int STEPS = 200;
    private static final int CALLS_OF_A_STEP = 83;
    private static final int CALLS_OF_A_LOOK = 120;

    private final Random random;
    private final boolean texts;
    private final TestedPool pool = new TestedPool();
    private final PlainPool plain = new PlainPool();

    private RandomRunsTest(long seed) {
        random = new Random(seed);
        texts = seed % 3 == 0;
    }

    public static void main(String[] args) {
        Checks checks = new Checks();
        for (int run = 0; run < RUNS; run++) {
            new RandomRunsTest(run).run(checks, "run " + run);
        }
        checks.end();
    }

    private interface Call {
        int answer();
    }

    private static String told(Call call) {
        try {
            return Integer.toString(call.answer());
        } catch (PlainPool.Refusal e) {
            return e.getMessage();
        } catch (RuntimeException e) {
            return e.getClass().getSimpleName();
        }
    }

    private void run(Checks checks, String name) {
        int pages = 2 + random.nextInt(29);
        int capacity = 1 + random.nextInt(20);
        for (int i = 0; i < STEPS && pool.callsLeft() >= CALLS_OF_A_STEP + CALLS_OF_A_LOOK; i++) {
            String call = step(checks, name + " call " + i, pages, capacity);
            String shown = Observation.of(pool);
            if (!shown.equals(plain.observation())) {
                checks.fail(name + " call " + i + " " + call + "\n  shows  " + shown + "\n  due is " + plain.observation());
                return;
            }
        }
    }

    private String step(Checks checks, String where, int pages, int capacity) {
        int kind = random.nextInt(100);
        if (kind < 72 || kind >= 91 && !texts) {
            char letter = "ssswdlllrrooccxtttt".charAt(random.nextInt(19));
            int a = first(letter, pages);
            int b = second(letter, capacity);
            return agree(checks, where, letter + "" + a + "," + b, () -> face(letter, a, b), () -> plain.call(letter, a, b));
        }
        if (kind < 76) {
            int seconds = random.nextInt(4) == 0 ? random.nextInt(70) - 4 : 1 + random.nextInt(60);
            return agree(checks, where, "setTransferTime " + seconds, () -> pool.setTransferTime(seconds), () -> plain.setTransferTime(seconds));
        }
        if (kind < 82) {
            return agree(checks, where, "undo", pool::undo, plain::undo);
        }
        if (kind < 85) {
            int slot = random.nextInt(4) - 1;
            return agree(checks, where, "save " + slot, () -> pool.save(slot), () -> plain.save(slot));
        }
        if (kind < 88) {
            int slot = random.nextInt(4) - 1;
            return agree(checks, where, "restore " + slot, () -> pool.restore(slot), () -> plain.restore(slot));
        }
        if (kind < 91) {
            int page = random.nextInt(32) - 1;
            return agree(checks, where, "read " + page, () -> pool.read(page), () -> plain.read(page));
        }
        return text(checks, where, pages, capacity);
    }

    private String text(Checks checks, String where, int pages, int capacity) {
        StringBuilder text = new StringBuilder();
        int commands = random.nextInt(12);
        for (int i = 0; i < commands; i++) {
            char letter = LETTERS.charAt(random.nextInt(9));
            text.append(i == 0 ? "" : ";").append(letter).append(first(letter, pages));
            if ("swlr".indexOf(letter) >= 0) {
                text.append(',').append(second(letter, capacity));
            }
        }
        if (text.length() > 0 && random.nextInt(3) == 0) {
            text.setCharAt(random.nextInt(text.length()), "0123456789,;swdlrocxt -~".charAt(random.nextInt(24)));
        }
        if (random.nextInt(5) != 0) {
            agree(checks, where, "clearText", pool::clearText, plain::clearText);
        }
        for (int i = 0; i < text.length(); i++) {
            char sign = text.charAt(i);
            agree(checks, where, "appendText", () -> pool.appendText(sign), () -> plain.appendText(sign));
        }
        agree(checks, where, "errorPosition " + text, pool::errorPosition, plain::errorPosition);
        return agree(checks, where, "runText " + text, pool::runText, plain::runText);
    }

    private static String agree(Checks checks, String where, String call, Call program, Call model) {
        checks.due(where + " " + call, told(program), told(model));
        return call;
    }

    private int first(char letter, int pages) {
        boolean odd = random.nextInt(40) == 0;
        if (letter == 't') {
            return odd ? random.nextInt(640) - 20 : random.nextInt(3) == 0 ? 1 + random.nextInt(200) : 1 + random.nextInt(8);
        }
        if (letter == 's' || letter == 'w' || letter == 'd') {
            return odd ? random.nextInt(36) - 3 : random.nextInt(pages);
        }
        return odd ? random.nextInt(10) - 2 : random.nextInt(6);
    }

    private int second(char letter, int capacity) {
        boolean odd = random.nextInt(40) == 0;
        if (letter == 'l') {
            return odd ? random.nextInt(26) - 2 : 1 + random.nextInt(capacity);
        }
        if (letter == 'r') {
            return odd ? random.nextInt(640) - 20 : 1 + random.nextInt(random.nextBoolean() ? 20 : 200);
        }
        return odd ? random.nextInt(10400) - 200 : random.nextInt(10000);
    }

    private int face(char letter, int a, int b) {
        switch (letter) {
            case 's':
                return pool.store(a, b);
            case 'w':
                return pool.write(a, b);
            case 'd':
                return pool.remove(a);
            case 'l':
                return pool.lend(a, b);
            case 'r':
                return pool.recall(a, b);
            case 'o':
                return pool.disconnect(a);
            case 'c':
                return pool.reconnect(a);
            case 'x':
                return pool.crash(a);
            default:
                return pool.pass(a);
        }
    }
}
