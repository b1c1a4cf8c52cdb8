/** Pools for the tests, made by the commands of the document's section 7: one method call for each command. */
final class Pools {
    /** Numbers of no host, also those that a shift or a cut to fewer bits would turn into one. */
    static final int[] NO_HOSTS = {
        -1, 6, 7, -6, 31, 32, 37, 64, 256, 65536, 1 << 30, Integer.MAX_VALUE, Integer.MIN_VALUE, Integer.MIN_VALUE + 5,
    };
    /** Numbers of no page, of the same kinds. */
    static final int[] NO_PAGES = {
        -1, 30, 31, -30, 32, 61, 64, 256, 65536, 1 << 30, Integer.MAX_VALUE, Integer.MIN_VALUE, Integer.MIN_VALUE + 29,
    };

    /** A new pool after these commands, which stand apart by blanks. */
    static TestedPool after(String commands) {
        TestedPool pool = new TestedPool();
        does(pool, commands);
        return pool;
    }

    /** The answer of the last of these commands. */
    static int does(TestedPool pool, String commands) {
        int answer = 0;
        for (String command : commands.split(" ")) {
            String[] numbers = command.substring(1).split(",");
            int first = Integer.parseInt(numbers[0]);
            answer = one(pool, command.charAt(0), first, numbers.length == 2 ? Integer.parseInt(numbers[1]) : 0);
        }
        return answer;
    }

    private static int one(TestedPool pool, char letter, int first, int second) {
        switch (letter) {
            case 's':
                return pool.store(first, second);
            case 'w':
                return pool.write(first, second);
            case 'd':
                return pool.remove(first);
            case 'l':
                return pool.lend(first, second);
            case 'r':
                return pool.recall(first, second);
            case 'o':
                return pool.disconnect(first);
            case 'c':
                return pool.reconnect(first);
            case 'x':
                return pool.crash(first);
            case 't':
                return pool.pass(first);
            default:
                throw new AssertionError("no command: " + letter);
        }
    }

    static TestedPool withText(String text) {
        TestedPool pool = new TestedPool();
        put(pool, text);
        return pool;
    }

    /** Makes this the whole text of the pool. */
    static void put(TestedPool pool, String text) {
        pool.clearText();
        for (char sign : text.toCharArray()) {
            pool.appendText(sign);
        }
    }

    /** The transfer as page, source, target: 1203 is page 12 from host 0 to host 3; NONE if there is none. */
    static int transfer(TestedPool pool) {
        if (pool.transfer(0) == RemoteMemoryPool.NONE) {
            return RemoteMemoryPool.NONE;
        }
        return pool.transfer(0) * 100 + pool.transfer(1) * 10 + pool.transfer(2);
    }

    /** A pool at this time, by a text that lets 9600 seconds pass a call; the text stays empty. */
    static TestedPool at(int time) {
        TestedPool pool = withText("t600" + ";t600".repeat(15));
        while (time - pool.time() >= 9600) {
            pool.runText();
        }
        while (pool.time() < time) {
            pool.pass(Math.min(600, time - pool.time()));
        }
        pool.clearText();
        return pool;
    }

    private Pools() {
    }
}
