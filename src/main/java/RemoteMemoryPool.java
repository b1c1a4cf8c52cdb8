/**
 * A pool of memory that idle hosts lend. A page is kept in two replicas on different hosts where
 * there is room; hosts may take their memory back, vanish and come again, and one transfer at a
 * time restores the replicas in the background.
 */
public final class RemoteMemoryPool {
    public static final int NONE = -1;
    public static final int AWAY = 0, LENDING = 1, RECALLED = 2;
    public static final int LOST = -2, UNAVAILABLE = 0, ENDANGERED = 1, SAFE = 2;

    private static final int HOSTS = 6;
    private static final int ALL_HOSTS = (1 << HOSTS) - 1;
    private static final int PAGES = 30;
    private static final int MOST_VALUE = 9999;
    private static final int MOST_CAPACITY = 20;
    private static final int MOST_SECONDS = 600;
    private static final int MOST_TRANSFER_TIME = 60;
    private static final int FIRST_TRANSFER_TIME = 5;
    private static final int MOST_TIME = 1000000;
    private static final int MOST_SAVED = 6;
    private static final int SLOTS = 2;
    private static final int MOST_TEXT = 80;
    private static final int FIRST_SIGN = 32;
    private static final int LAST_SIGN = 126;

    // A rank puts the class of a candidate above every deadline, and no deadline reaches the step.
    private static final int RANK_STEP = 10000000;
    private static final int NO_RANK = 9 * RANK_STEP;

    private final State state = new State();
    private final State forecast = new State();
    private final State[] saved = new State[MOST_SAVED];
    private int savedCount = 0;
    private final State[] slots = new State[SLOTS];
    private int filledSlots = 0;
    private final char[] text = new char[MOST_TEXT];
    private int textSize = 0;
    private final CommandReader reader = new CommandReader();

    public RemoteMemoryPool() {
        for (int i = 0; i < MOST_SAVED; i++) {
            saved[i] = new State();
        }
        for (int i = 0; i < SLOTS; i++) {
            slots[i] = new State();
        }
    }

    // ---- pages

    public int store(int page, int value) throws IndexOutOfBoundsException, IllegalArgumentException, IllegalStateException {
        requirePage(page);
        requireRange(value, 0, MOST_VALUE);
        requireState(state.canAdd(page));
        remember();
        return state.addPage(page, value);
    }

    public int write(int page, int value) throws IndexOutOfBoundsException, IllegalArgumentException, IllegalStateException {
        requirePage(page);
        requireRange(value, 0, MOST_VALUE);
        requireState(state.isReachable(page));
        remember();
        return state.overwritePage(page, value);
    }

    public int read(int page) throws IndexOutOfBoundsException, IllegalStateException {
        requirePage(page);
        requireState(state.isReachable(page));
        return state.value[page];
    }

    public int remove(int page) throws IndexOutOfBoundsException, IllegalStateException {
        requirePage(page);
        requireState(state.exists(page));
        remember();
        return state.dropPage(page);
    }

    // ---- hosts

    public int lend(int host, int capacity) throws IndexOutOfBoundsException, IllegalArgumentException, IllegalStateException {
        requireHost(host);
        requireRange(capacity, 1, MOST_CAPACITY);
        requireState(state.canBegin(host));
        remember();
        return state.beginLending(host, capacity);
    }

    public int recall(int host, int seconds) throws IndexOutOfBoundsException, IllegalArgumentException, IllegalStateException {
        requireHost(host);
        requireRange(seconds, 1, MOST_SECONDS);
        requireState(state.isOpen(host));
        remember();
        return state.callBack(host, seconds);
    }

    public int disconnect(int host) throws IndexOutOfBoundsException, IllegalStateException {
        requireHost(host);
        requireState(state.canDetach(host));
        remember();
        return state.detach(host);
    }

    public int reconnect(int host) throws IndexOutOfBoundsException, IllegalStateException {
        requireHost(host);
        requireState(state.canAttach(host));
        remember();
        return state.attach(host);
    }

    public int crash(int host) throws IndexOutOfBoundsException, IllegalStateException {
        requireHost(host);
        requireState(state.canBreak(host));
        remember();
        return state.breakDown(host);
    }

    // ---- time

    public int pass(int seconds) throws IllegalArgumentException, IllegalStateException {
        requireRange(seconds, 1, MOST_SECONDS);
        requireState(state.canAdvance(seconds));
        remember();
        return state.advance(seconds);
    }

    public int setTransferTime(int seconds) throws IllegalArgumentException {
        requireRange(seconds, 1, MOST_TRANSFER_TIME);
        remember();
        int previous = state.transferTime;
        state.transferTime = seconds;
        return previous;
    }

    // ---- texts

    public int appendText(int character) throws IllegalArgumentException, IllegalStateException {
        requireRange(character, FIRST_SIGN, LAST_SIGN);
        requireState(textSize < MOST_TEXT);
        text[textSize] = (char) character;
        textSize++;
        return textSize;
    }

    public int clearText() {
        int previous = textSize;
        textSize = 0;
        return previous;
    }

    public int errorPosition() {
        reader.restart();
        for (int i = 0; i < textSize; i++) {
            if (!reader.accept(text[i])) {
                return i;
            }
        }
        return reader.isComplete() ? NONE : textSize;
    }

    public int runText() throws IllegalStateException {
        requireState(errorPosition() == NONE);
        remember();
        int executed = 0;
        reader.restart();
        for (int i = 0; i <= textSize; i++) {
            if (i < textSize && text[i] != ';') {
                reader.accept(text[i]);
                continue;
            }
            if (!execute(reader.letter, reader.first, reader.second)) {
                break;
            }
            executed++;
            reader.restart();
        }
        return executed;
    }

    // ---- undo and slots

    public int undo() throws IllegalStateException {
        requireState(savedCount > 0);
        savedCount--;
        State.copy(saved[savedCount], state);
        return savedCount;
    }

    public int save(int slot) throws IndexOutOfBoundsException {
        requireIndex(slot, SLOTS);
        State.copy(state, slots[slot]);
        filledSlots |= 1 << slot;
        return state.now;
    }

    public int restore(int slot) throws IndexOutOfBoundsException, IllegalStateException {
        requireIndex(slot, SLOTS);
        requireState(has(filledSlots, slot));
        remember();
        State.copy(slots[slot], state);
        return state.now;
    }

    // ---- queries about pages

    public int status(int page) throws IndexOutOfBoundsException {
        requirePage(page);
        return state.statusOf(page);
    }

    public int copies(int page) throws IndexOutOfBoundsException {
        requirePage(page);
        return state.copySet(page);
    }

    public int countStatus(int status) throws IllegalArgumentException {
        if (status != LOST) {
            requireRange(status, UNAVAILABLE, SAFE);
        }
        return state.pagesWithStatus(status);
    }

    // ---- queries about hosts

    public int mode(int host) throws IndexOutOfBoundsException {
        requireHost(host);
        return state.mode[host];
    }

    public boolean isConnected(int host) throws IndexOutOfBoundsException {
        requireHost(host);
        return has(state.connected, host);
    }

    public int usedRoom(int host) throws IndexOutOfBoundsException {
        requireHost(host);
        return state.usedOn(host);
    }

    public int freeRoom(int host) throws IndexOutOfBoundsException {
        requireHost(host);
        return state.roomOn(host);
    }

    public int deadlineIn(int host) throws IndexOutOfBoundsException {
        requireHost(host);
        return state.mode[host] == RECALLED ? state.deadline[host] - state.now : NONE;
    }

    public int replica(int host, int page) throws IndexOutOfBoundsException {
        requireHost(host);
        requirePage(page);
        if (has(state.fresh[host], page)) {
            return 1;
        }
        return has(state.stale[host], page) ? 2 : 0;
    }

    // ---- queries about the transfer and the time

    public int transfer(int part) throws IllegalArgumentException {
        requireRange(part, 0, 3);
        if (state.transferPage == NONE) {
            return NONE;
        }
        switch (part) {
            case 0:
                return state.transferPage;
            case 1:
                return state.transferSource;
            case 2:
                return state.transferTarget;
            default:
                return state.transferDue - state.now;
        }
    }

    public int completedTransfers() {
        return state.completed;
    }

    public int time() {
        return state.now;
    }

    // ---- queries about what would happen

    public int lostWithout(int hosts) throws IllegalArgumentException {
        requireRange(hosts, 0, ALL_HOSTS);
        return state.pagesOnlyOn(hosts);
    }

    public int worstPair() {
        int worst = NONE;
        int most = NONE;
        for (int a = 0; a < HOSTS; a++) {
            for (int b = a + 1; b < HOSTS; b++) {
                int lost = state.pagesOnlyOn(1 << a | 1 << b);
                if (lost > most) {
                    most = lost;
                    worst = HOSTS * a + b;
                }
            }
        }
        return worst;
    }

    public int lostIn(int seconds) throws IllegalArgumentException {
        requireRange(seconds, 1, MOST_SECONDS);
        State.copy(state, forecast);
        forecast.advance(seconds);
        return forecast.pagesWithStatus(LOST);
    }

    public int restsIn() {
        State.copy(state, forecast);
        int start = forecast.now;
        int end = start + MOST_SECONDS;
        // Each round but the last moves the time on by a second at least.
        for (int round = 0; round <= MOST_SECONDS; round++) {
            if (forecast.isAtRest()) {
                return forecast.now - start;
            }
            if (forecast.now >= end) {
                return NONE;
            }
            forecast.advance(forecast.nextEvent(end) - forecast.now);
        }
        return NONE;
    }

    public int savedStates() {
        return savedCount;
    }

    public int textLength() {
        return textSize;
    }

    // ---- what the calls share

    private static void requireIndex(int index, int size) {
        if (index < 0 || index >= size) {
            throw new IndexOutOfBoundsException("there is no such number");
        }
    }

    private static void requirePage(int page) {
        requireIndex(page, PAGES);
    }

    private static void requireHost(int host) {
        requireIndex(host, HOSTS);
    }

    private static void requireRange(int number, int least, int most) {
        if (number < least || number > most) {
            throw new IllegalArgumentException("the argument is out of range");
        }
    }

    private static void requireState(boolean allowed) {
        if (!allowed) {
            throw new IllegalStateException("the pool does not allow this call now");
        }
    }

    private static boolean has(int set, int member) {
        return (set >> member & 1) != 0;
    }

    private void remember() {
        if (savedCount == MOST_SAVED) {
            State oldest = saved[0];
            for (int i = 1; i < MOST_SAVED; i++) {
                saved[i - 1] = saved[i];
            }
            savedCount--;
            saved[savedCount] = oldest;
        }
        State.copy(state, saved[savedCount]);
        savedCount++;
    }

    /** Executes a command whose numbers are in range; false, and nothing changed, if its method would throw. */
    private boolean execute(char letter, int first, int second) {
        if (!isAllowed(letter, first)) {
            return false;
        }
        switch (letter) {
            case 's':
                state.addPage(first, second);
                break;
            case 'w':
                state.overwritePage(first, second);
                break;
            case 'd':
                state.dropPage(first);
                break;
            case 'l':
                state.beginLending(first, second);
                break;
            case 'r':
                state.callBack(first, second);
                break;
            case 'o':
                state.detach(first);
                break;
            case 'c':
                state.attach(first);
                break;
            case 'x':
                state.breakDown(first);
                break;
            default:
                state.advance(first);
                break;
        }
        return true;
    }

    private boolean isAllowed(char letter, int first) {
        switch (letter) {
            case 's':
                return state.canAdd(first);
            case 'w':
                return state.isReachable(first);
            case 'd':
                return state.exists(first);
            case 'l':
                return state.canBegin(first);
            case 'r':
                return state.isOpen(first);
            case 'o':
                return state.canDetach(first);
            case 'c':
                return state.canAttach(first);
            case 'x':
                return state.canBreak(first);
            default:
                return state.canAdvance(first);
        }
    }

    /**
     * Everything that undo and the slots keep. Sets of pages and of hosts are bits of an int. No
     * stamps are kept: nothing shows them, and a stale replica never becomes fresh again, so two
     * sets of pages for each host say the same.
     */
    private static final class State {
        final int[] mode = new int[HOSTS];
        final int[] capacity = new int[HOSTS];
        final int[] deadline = new int[HOSTS];
        final int[] fresh = new int[HOSTS];
        final int[] stale = new int[HOSTS];
        final int[] value = new int[PAGES];
        int existing = 0;
        int connected = ALL_HOSTS;
        int now = 0;
        int transferTime = FIRST_TRANSFER_TIME;
        int completed = 0;
        int transferPage = NONE;
        int transferSource = NONE;
        int transferTarget = NONE;
        int transferDue = 0;

        static void copy(State from, State to) {
            if (from == null || to == null) {
                return;
            }
            System.arraycopy(from.mode, 0, to.mode, 0, HOSTS);
            System.arraycopy(from.capacity, 0, to.capacity, 0, HOSTS);
            System.arraycopy(from.deadline, 0, to.deadline, 0, HOSTS);
            System.arraycopy(from.fresh, 0, to.fresh, 0, HOSTS);
            System.arraycopy(from.stale, 0, to.stale, 0, HOSTS);
            System.arraycopy(from.value, 0, to.value, 0, PAGES);
            to.existing = from.existing;
            to.connected = from.connected;
            to.now = from.now;
            to.transferTime = from.transferTime;
            to.completed = from.completed;
            to.transferPage = from.transferPage;
            to.transferSource = from.transferSource;
            to.transferTarget = from.transferTarget;
            to.transferDue = from.transferDue;
        }

        // ---- what is so

        static boolean isPage(int page) {
            return page >= 0 && page < PAGES;
        }

        static boolean isHost(int host) {
            return host >= 0 && host < HOSTS;
        }

        boolean exists(int page) {
            return isPage(page) && has(existing, page);
        }

        boolean isReachable(int page) {
            return exists(page) && copySet(page) != 0;
        }

        boolean canAdd(int page) {
            return isPage(page) && !exists(page) && bestHost(page) != NONE;
        }

        boolean canBegin(int host) {
            return isHost(host) && mode[host] == AWAY && has(connected, host);
        }

        boolean isOpen(int host) {
            return isHost(host) && mode[host] == LENDING && has(connected, host);
        }

        boolean canDetach(int host) {
            return isHost(host) && mode[host] != AWAY && has(connected, host);
        }

        boolean canAttach(int host) {
            return isHost(host) && !has(connected, host);
        }

        boolean canBreak(int host) {
            return isHost(host) && mode[host] != AWAY;
        }

        boolean canAdvance(int seconds) {
            return seconds <= MOST_TIME - now;
        }

        boolean isAtRest() {
            for (int host = 0; host < HOSTS; host++) {
                if (mode[host] == RECALLED) {
                    return false;
                }
            }
            return transferPage == NONE;
        }

        int freshSet(int page) {
            int hosts = 0;
            for (int host = 0; host < HOSTS; host++) {
                hosts |= (fresh[host] >> page & 1) << host;
            }
            return hosts;
        }

        int copySet(int page) {
            return freshSet(page) & connected;
        }

        int statusOf(int page) {
            if (!exists(page)) {
                return NONE;
            }
            int copyCount = Integer.bitCount(copySet(page));
            if (copyCount > 0) {
                return copyCount == 1 ? ENDANGERED : SAFE;
            }
            return freshSet(page) != 0 ? UNAVAILABLE : LOST;
        }

        int pagesWithStatus(int status) {
            int count = 0;
            for (int page = 0; page < PAGES; page++) {
                if (statusOf(page) == status) {
                    count++;
                }
            }
            return count;
        }

        int pagesOnlyOn(int hosts) {
            int inside = 0;
            int outside = 0;
            for (int host = 0; host < HOSTS; host++) {
                if (has(hosts, host)) {
                    inside |= fresh[host];
                } else {
                    outside |= fresh[host];
                }
            }
            return Integer.bitCount(inside & ~outside);
        }

        int heldOn(int host) {
            return isHost(host) ? Integer.bitCount(fresh[host] | stale[host]) : 0;
        }

        int usedOn(int host) {
            int incoming = transferTarget == host ? 1 : 0;
            return isHost(host) ? Integer.bitCount(fresh[host] | stale[host]) + incoming : 0;
        }

        int roomOn(int host) {
            return isOpen(host) ? capacity[host] - usedOn(host) : 0;
        }

        int bestHost(int page) {
            int best = NONE;
            int most = 0;
            for (int host = 0; host < HOSTS; host++) {
                int room = roomOn(host);
                if (room > most && !has(fresh[host] | stale[host], page)) {
                    most = room;
                    best = host;
                }
            }
            return best;
        }

        int nextEvent(int end) {
            int next = end;
            if (transferPage != NONE && transferDue < next) {
                next = transferDue;
            }
            for (int host = 0; host < HOSTS; host++) {
                if (mode[host] == RECALLED && deadline[host] < next) {
                    next = deadline[host];
                }
            }
            return next;
        }

        // ---- the operations; the caller has asked whether they are allowed

        int addPage(int page, int newValue) {
            existing |= 1 << page;
            value[page] = newValue;
            placeReplica(page);
            placeReplica(page);
            int placed = Integer.bitCount(copySet(page));
            settle();
            return placed;
        }

        private void placeReplica(int page) {
            int host = bestHost(page);
            if (isHost(host)) {
                fresh[host] |= 1 << page;
            }
        }

        int overwritePage(int page, int newValue) {
            value[page] = newValue;
            outdate(page);
            settle();
            return Integer.bitCount(copySet(page));
        }

        int dropPage(int page) {
            int dropped = Integer.bitCount(copySet(page));
            outdate(page);
            for (int host = 0; host < HOSTS; host++) {
                fresh[host] &= ~(1 << page);
            }
            existing &= ~(1 << page);
            if (transferPage == page) {
                cancelTransfer();
            }
            settle();
            return dropped;
        }

        // A disconnected host learns of no change, so what it holds of the page is stale from now on.
        private void outdate(int page) {
            for (int host = 0; host < HOSTS; host++) {
                if (!has(connected, host)) {
                    stale[host] |= fresh[host] & 1 << page;
                    fresh[host] &= ~(1 << page);
                }
            }
        }

        int beginLending(int host, int newCapacity) {
            mode[host] = LENDING;
            capacity[host] = newCapacity;
            int room = 0;
            for (int other = 0; other < HOSTS; other++) {
                room += roomOn(other);
            }
            settle();
            return room;
        }

        int callBack(int host, int seconds) {
            mode[host] = RECALLED;
            deadline[host] = now + seconds;
            if (transferTarget == host) {
                cancelTransfer();
            }
            settle();
            return heldOn(host);
        }

        int detach(int host) {
            connected &= ~(1 << host);
            cancelTransferOf(host);
            settle();
            return heldOn(host);
        }

        int attach(int host) {
            // The host is not connected yet, so the copies counted here are those on other hosts.
            int surplus = stale[host] | fresh[host] & pagesCopiedTwice();
            connected |= 1 << host;
            fresh[host] &= ~surplus;
            stale[host] = 0;
            settle();
            return Integer.bitCount(surplus);
        }

        private int pagesCopiedTwice() {
            int once = 0;
            int twice = 0;
            for (int host = 0; host < HOSTS; host++) {
                if (has(connected, host)) {
                    twice |= once & fresh[host];
                    once |= fresh[host];
                }
            }
            return twice;
        }

        int breakDown(int host) {
            int lost = heldOn(host);
            leave(host);
            connected |= 1 << host;
            cancelTransferOf(host);
            settle();
            return lost;
        }

        private void leave(int host) {
            fresh[host] = 0;
            stale[host] = 0;
            mode[host] = AWAY;
        }

        private void cancelTransferOf(int host) {
            if (transferSource == host || transferTarget == host) {
                cancelTransfer();
            }
        }

        private void cancelTransfer() {
            transferPage = NONE;
            transferSource = NONE;
            transferTarget = NONE;
        }

        // ---- time

        /** Lets time pass, whatever its limit, and answers the number of completed transfers. */
        int advance(int seconds) {
            int before = completed;
            int end = now + seconds;
            // A settled pool stays as it is until the next event, so the seconds between are skipped;
            // each round moves the time on by a second at least.
            for (int round = 0; round < seconds && now < end; round++) {
                now = nextEvent(end);
                if (transferPage != NONE && transferDue == now) {
                    completeTransfer();
                }
                for (int host = 0; host < HOSTS; host++) {
                    if (mode[host] == RECALLED && deadline[host] == now) {
                        leave(host);
                        cancelTransferOf(host);
                    }
                }
                settle();
            }
            return completed - before;
        }

        private void completeTransfer() {
            int page = transferPage;
            int source = transferSource;
            int target = transferTarget;
            cancelTransfer();
            completed++;
            if (!isPage(page) || !isHost(source) || !isHost(target)) {
                return;
            }
            if (mode[source] == RECALLED) {
                fresh[source] &= ~(1 << page);
                fresh[target] |= 1 << page;
            } else if (Integer.bitCount(copySet(page)) == 1) {
                fresh[target] |= 1 << page;
            }
        }

        private void settle() {
            releaseHosts();
            if (transferPage != NONE) {
                return;
            }
            int bestRank = NO_RANK;
            int chosenPage = NONE;
            int chosenHost = NONE;
            for (int page = 0; page < PAGES; page++) {
                int hosts = copySet(page);
                for (int host = 0; host < HOSTS; host++) {
                    int rank = rankOf(host, hosts);
                    if (rank < bestRank && bestHost(page) != NONE) {
                        bestRank = rank;
                        chosenPage = page;
                        chosenHost = host;
                    }
                }
            }
            if (chosenPage != NONE) {
                transferTarget = bestHost(chosenPage);
                transferPage = chosenPage;
                transferSource = chosenHost;
                transferDue = now + transferTime;
            }
        }

        private void releaseHosts() {
            for (int host = 0; host < HOSTS; host++) {
                if (mode[host] == RECALLED && has(connected, host) && heldOn(host) == 0) {
                    mode[host] = AWAY;
                }
            }
        }

        /** The rank of the candidate of this host and of a page with copies on these hosts; the least goes first. */
        private int rankOf(int host, int hosts) {
            if (!has(hosts, host) || !isHost(host)) {
                return NO_RANK;
            }
            boolean only = hosts == 1 << host;
            if (mode[host] == RECALLED) {
                return (only ? 1 : 3) * RANK_STEP + deadline[host];
            }
            return only ? 2 * RANK_STEP : NO_RANK;
        }
    }

    /** Reads the signs of a text one by one, and refuses the first with which no valid text goes on. */
    private static final class CommandReader {
        private static final char NO_LETTER = 0;

        char letter = NO_LETTER;
        int first = NONE;
        int second = NONE;
        private boolean onSecond = false;

        void restart() {
            letter = NO_LETTER;
            first = NONE;
            second = NONE;
            onSecond = false;
        }

        /** Whether a text may end behind the signs so far. */
        boolean isComplete() {
            return takesTwo() ? second != NONE : first != NONE;
        }

        boolean accept(char sign) {
            if (letter == NO_LETTER) {
                return acceptLetter(sign);
            }
            if (sign >= '0' && sign <= '9') {
                return acceptDigit(sign - '0');
            }
            if (sign == ',' && takesTwo() && first != NONE && !onSecond) {
                onSecond = true;
                return true;
            }
            if (sign == ';' && isComplete()) {
                restart();
                return true;
            }
            return false;
        }

        private boolean acceptLetter(char sign) {
            switch (sign) {
                case 's':
                case 'w':
                case 'd':
                case 'l':
                case 'r':
                case 'o':
                case 'c':
                case 'x':
                case 't':
                    letter = sign;
                    return true;
                default:
                    return false;
            }
        }

        // What is read of a number is in its range at each digit, since more digits only make it greater.
        private boolean acceptDigit(int digit) {
            int before = onSecond ? second : first;
            if (before == 0) {
                return false;
            }
            int number = before == NONE ? digit : 10 * before + digit;
            if (number < least() || number > most()) {
                return false;
            }
            if (onSecond) {
                second = number;
            } else {
                first = number;
            }
            return true;
        }

        private boolean takesTwo() {
            return letter == 's' || letter == 'w' || letter == 'l' || letter == 'r';
        }

        private boolean isPageLetter() {
            return letter == 's' || letter == 'w' || letter == 'd';
        }

        private int least() {
            if (letter == 't') {
                return 1;
            }
            return onSecond && !isPageLetter() ? 1 : 0;
        }

        private int most() {
            if (letter == 't' || onSecond && letter == 'r') {
                return MOST_SECONDS;
            }
            if (onSecond) {
                return isPageLetter() ? MOST_VALUE : MOST_CAPACITY;
            }
            return isPageLetter() ? PAGES - 1 : HOSTS - 1;
        }
    }
}
