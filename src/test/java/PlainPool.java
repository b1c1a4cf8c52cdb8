import java.util.ArrayList;
import java.util.Arrays;
import java.util.HashSet;
import java.util.List;
import java.util.Set;
import java.util.TreeMap;

/**
 * The document once more, written for plainness: stamps, lists, second by second. It shares no code
 * and no way of thinking with the program, so that a random run may compare the two.
 */
final class PlainPool {
    static final String BOUNDS = "IndexOutOfBoundsException";
    static final String ARGUMENT = "IllegalArgumentException";
    static final String STATE = "IllegalStateException";

    static final class Refusal extends RuntimeException {
        private static final long serialVersionUID = 1L;

        Refusal(String kind) {
            super(kind);
        }
    }

    private static final class Host {
        int mode, capacity, deadline;
        boolean connected = true;
        TreeMap<Integer, Integer> replicas = new TreeMap<>();
    }

    private static final class Page {
        int value, stamp;
    }

    private static final class World {
        Host[] hosts = new Host[6];
        Page[] pages = new Page[30];
        int now, stamps, transferTime = 5, completed;
        int[] transfer;

        World() {
            for (int h = 0; h < 6; h++) {
                hosts[h] = new Host();
            }
        }

        World twin() {
            World w = new World();
            for (int h = 0; h < 6; h++) {
                w.hosts[h].mode = hosts[h].mode;
                w.hosts[h].capacity = hosts[h].capacity;
                w.hosts[h].deadline = hosts[h].deadline;
                w.hosts[h].connected = hosts[h].connected;
                w.hosts[h].replicas = new TreeMap<>(hosts[h].replicas);
            }
            for (int p = 0; p < 30; p++) {
                if (pages[p] != null) {
                    w.pages[p] = new Page();
                    w.pages[p].value = pages[p].value;
                    w.pages[p].stamp = pages[p].stamp;
                }
            }
            w.now = now;
            w.stamps = stamps;
            w.transferTime = transferTime;
            w.completed = completed;
            w.transfer = transfer == null ? null : transfer.clone();
            return w;
        }

        boolean fresh(int h, int p) {
            Integer stamp = hosts[h].replicas.get(p);
            return stamp != null && pages[p] != null && pages[p].stamp == stamp;
        }

        List<Integer> copies(int p) {
            List<Integer> found = new ArrayList<>();
            for (int h = 0; h < 6; h++) {
                if (hosts[h].connected && hosts[h].replicas.containsKey(p)) {
                    if (!fresh(h, p)) {
                        throw new AssertionError("a copy is stale");
                    }
                    found.add(h);
                }
            }
            return found;
        }

        int status(int p) {
            if (pages[p] == null) {
                return -1;
            }
            int n = copies(p).size();
            if (n >= 2) {
                return 2;
            }
            if (n == 1) {
                return 1;
            }
            for (int h = 0; h < 6; h++) {
                if (fresh(h, p)) {
                    return 0;
                }
            }
            return -2;
        }

        int used(int h) {
            return hosts[h].replicas.size() + (transfer != null && transfer[2] == h ? 1 : 0);
        }

        int free(int h) {
            Host host = hosts[h];
            return host.mode == 1 && host.connected ? host.capacity - used(h) : 0;
        }

        int best(int p) {
            int best = -1;
            for (int h = 5; h >= 0; h--) {
                if (free(h) >= 1 && !hosts[h].replicas.containsKey(p) && (best < 0 || free(h) >= free(best))) {
                    best = h;
                }
            }
            return best;
        }

        void settle() {
            for (Host host : hosts) {
                if (host.mode == 2 && host.connected && host.replicas.isEmpty()) {
                    host.mode = 0;
                }
            }
            if (transfer != null) {
                return;
            }
            List<int[]> candidates = new ArrayList<>();
            for (int p = 0; p < 30; p++) {
                if (pages[p] == null || best(p) < 0) {
                    continue;
                }
                List<Integer> copies = copies(p);
                for (int h : copies) {
                    int mode = hosts[h].mode;
                    if (copies.size() == 1 && mode == 2) {
                        candidates.add(new int[] {1, hosts[h].deadline, p, h});
                    } else if (copies.size() == 1 && mode == 1) {
                        candidates.add(new int[] {2, 0, p, h});
                    } else if (copies.size() >= 2 && mode == 2) {
                        candidates.add(new int[] {3, hosts[h].deadline, p, h});
                    }
                }
            }
            if (!candidates.isEmpty()) {
                candidates.sort(Arrays::compare);
                int[] c = candidates.get(0);
                transfer = new int[] {c[2], c[3], best(c[2]), now + transferTime};
            }
        }

        void second() {
            now++;
            if (transfer != null && transfer[3] == now) {
                int p = transfer[0], from = transfer[1], to = transfer[2];
                transfer = null;
                completed++;
                if (hosts[from].mode == 2) {
                    hosts[from].replicas.remove(p);
                    hosts[to].replicas.put(p, pages[p].stamp);
                } else if (copies(p).size() == 1) {
                    hosts[to].replicas.put(p, pages[p].stamp);
                }
            }
            for (int h = 0; h < 6; h++) {
                if (hosts[h].mode == 2 && hosts[h].deadline == now) {
                    hosts[h].replicas.clear();
                    hosts[h].mode = 0;
                    if (transfer != null && transfer[1] == h) {
                        transfer = null;
                    }
                }
            }
            settle();
        }

        int lost() {
            int n = 0;
            for (int p = 0; p < 30; p++) {
                n += status(p) == -2 ? 1 : 0;
            }
            return n;
        }
    }

    private World world = new World();
    private final List<World> saved = new ArrayList<>();
    private final World[] slots = new World[2];
    private String text = "";

    private static void need(boolean held, String kind) {
        if (!held) {
            throw new Refusal(kind);
        }
    }

    private static void page(int p) {
        need(p >= 0 && p <= 29, BOUNDS);
    }

    private static void host(int h) {
        need(h >= 0 && h <= 5, BOUNDS);
    }

    private static void range(int n, int least, int most) {
        need(n >= least && n <= most, ARGUMENT);
    }

    /** One of the operations of the texts; a refusal changes nothing. */
    private int operate(char letter, int a, int b) {
        if (letter == 's' || letter == 'w' || letter == 'd') {
            page(a);
        } else if (letter != 't') {
            host(a);
        }
        switch (letter) {
            case 's': {
                range(b, 0, 9999);
                need(world.pages[a] == null && world.best(a) >= 0, STATE);
                world.pages[a] = new Page();
                world.pages[a].value = b;
                world.pages[a].stamp = ++world.stamps;
                for (int i = 0; i < 2; i++) {
                    int to = world.best(a);
                    if (to >= 0) {
                        world.hosts[to].replicas.put(a, world.pages[a].stamp);
                    }
                }
                return after(world.copies(a).size());
            }
            case 'w': {
                range(b, 0, 9999);
                need(world.pages[a] != null && !world.copies(a).isEmpty(), STATE);
                List<Integer> copies = world.copies(a);
                world.pages[a].value = b;
                world.pages[a].stamp = ++world.stamps;
                for (int h : copies) {
                    world.hosts[h].replicas.put(a, world.pages[a].stamp);
                }
                return after(copies.size());
            }
            case 'd': {
                need(world.pages[a] != null, STATE);
                List<Integer> copies = world.copies(a);
                for (int h : copies) {
                    world.hosts[h].replicas.remove(a);
                }
                world.pages[a] = null;
                if (world.transfer != null && world.transfer[0] == a) {
                    world.transfer = null;
                }
                return after(copies.size());
            }
            case 'l': {
                range(b, 1, 20);
                need(world.hosts[a].mode == 0 && world.hosts[a].connected, STATE);
                world.hosts[a].mode = 1;
                world.hosts[a].capacity = b;
                int sum = 0;
                for (int h = 0; h < 6; h++) {
                    sum += world.free(h);
                }
                return after(sum);
            }
            case 'r': {
                range(b, 1, 600);
                need(world.hosts[a].mode == 1 && world.hosts[a].connected, STATE);
                world.hosts[a].mode = 2;
                world.hosts[a].deadline = world.now + b;
                if (world.transfer != null && world.transfer[2] == a) {
                    world.transfer = null;
                }
                return after(world.hosts[a].replicas.size());
            }
            case 'o': {
                need(world.hosts[a].mode != 0 && world.hosts[a].connected, STATE);
                world.hosts[a].connected = false;
                cancel(a);
                return after(world.hosts[a].replicas.size());
            }
            case 'c': {
                need(!world.hosts[a].connected, STATE);
                world.hosts[a].connected = true;
                int removed = 0;
                for (int p = 0; p < 30; p++) {
                    if (!world.hosts[a].replicas.containsKey(p)) {
                        continue;
                    }
                    int others = 0;
                    for (int h = 0; h < 6; h++) {
                        others += h != a && world.hosts[h].connected && world.hosts[h].replicas.containsKey(p) ? 1 : 0;
                    }
                    if (!world.fresh(a, p) || others >= 2) {
                        world.hosts[a].replicas.remove(p);
                        removed++;
                    }
                }
                return after(removed);
            }
            case 'x': {
                need(world.hosts[a].mode != 0, STATE);
                int removed = world.hosts[a].replicas.size();
                world.hosts[a].replicas.clear();
                world.hosts[a].mode = 0;
                world.hosts[a].connected = true;
                cancel(a);
                return after(removed);
            }
            default: {
                range(a, 1, 600);
                need(world.now + a <= 1000000, STATE);
                int before = world.completed;
                for (int i = 0; i < a; i++) {
                    world.second();
                }
                return world.completed - before;
            }
        }
    }

    private int after(int answer) {
        world.settle();
        return answer;
    }

    private void cancel(int h) {
        if (world.transfer != null && (world.transfer[1] == h || world.transfer[2] == h)) {
            world.transfer = null;
        }
    }

    private void keep(World before) {
        saved.add(before);
        if (saved.size() > 6) {
            saved.remove(0);
        }
    }

    int call(char letter, int a, int b) {
        World before = world.twin();
        int answer = operate(letter, a, b);
        keep(before);
        return answer;
    }

    int read(int p) {
        page(p);
        need(world.pages[p] != null && !world.copies(p).isEmpty(), STATE);
        return world.pages[p].value;
    }

    int setTransferTime(int seconds) {
        range(seconds, 1, 60);
        keep(world.twin());
        int previous = world.transferTime;
        world.transferTime = seconds;
        return previous;
    }

    int appendText(int character) {
        range(character, 32, 126);
        need(text.length() < 80, STATE);
        text += (char) character;
        return text.length();
    }

    int clearText() {
        int previous = text.length();
        text = "";
        return previous;
    }

    private static final class Numbers {
        final Set<String> whole = new HashSet<>();
        final Set<String> begun = new HashSet<>();

        Numbers(int least, int most) {
            begun.add("");
            for (int n = least; n <= most; n++) {
                String written = Integer.toString(n);
                whole.add(written);
                for (int i = 1; i <= written.length(); i++) {
                    begun.add(written.substring(0, i));
                }
            }
        }
    }

    private static final Numbers PAGE = new Numbers(0, 29), HOST = new Numbers(0, 5), VALUE = new Numbers(0, 9999);
    private static final Numbers CAPACITY = new Numbers(1, 20), SECONDS = new Numbers(1, 600);

    private static Numbers[] shape(char letter) {
        switch (letter) {
            case 's': case 'w': return new Numbers[] {PAGE, VALUE};
            case 'd': return new Numbers[] {PAGE};
            case 'l': return new Numbers[] {HOST, CAPACITY};
            case 'r': return new Numbers[] {HOST, SECONDS};
            case 'o': case 'c': case 'x': return new Numbers[] {HOST};
            case 't': return new Numbers[] {SECONDS};
            default: return null;
        }
    }

    private static boolean command(String part, boolean whole) {
        if (part.isEmpty()) {
            return !whole;
        }
        Numbers[] shape = shape(part.charAt(0));
        if (shape == null) {
            return false;
        }
        String[] written = part.substring(1).split(",", -1);
        if (written.length > shape.length || whole && written.length < shape.length) {
            return false;
        }
        for (int i = 0; i < written.length; i++) {
            boolean last = i == written.length - 1;
            if (!(whole || !last ? shape[i].whole : shape[i].begun).contains(written[i])) {
                return false;
            }
        }
        return true;
    }

    private static boolean good(String text, boolean whole) {
        String[] parts = text.split(";", -1);
        for (int i = 0; i < parts.length; i++) {
            if (!command(parts[i], whole || i < parts.length - 1)) {
                return false;
            }
        }
        return true;
    }

    int errorPosition() {
        for (int i = 0; i < text.length(); i++) {
            if (!good(text.substring(0, i + 1), false)) {
                return i;
            }
        }
        return good(text, true) ? -1 : text.length();
    }

    int runText() {
        need(errorPosition() == -1, STATE);
        keep(world.twin());
        int done = 0;
        for (String part : text.split(";")) {
            String[] numbers = part.substring(1).split(",");
            int b = numbers.length == 2 ? Integer.parseInt(numbers[1]) : 0;
            try {
                operate(part.charAt(0), Integer.parseInt(numbers[0]), b);
            } catch (Refusal e) {
                return done;
            }
            done++;
        }
        return done;
    }

    int undo() {
        need(!saved.isEmpty(), STATE);
        world = saved.remove(saved.size() - 1);
        return saved.size();
    }

    int save(int slot) {
        need(slot == 0 || slot == 1, BOUNDS);
        slots[slot] = world.twin();
        return world.now;
    }

    int restore(int slot) {
        need(slot == 0 || slot == 1, BOUNDS);
        need(slots[slot] != null, STATE);
        keep(world);
        world = slots[slot].twin();
        return world.now;
    }

    private int lostWithout(int set) {
        int n = 0;
        for (int p = 0; p < 30; p++) {
            boolean all = true;
            for (int h = 0; h < 6; h++) {
                all &= !fresh(h, p) || (set & 1 << h) != 0;
            }
            n += world.pages[p] != null && world.status(p) != -2 && all ? 1 : 0;
        }
        return n;
    }

    private boolean fresh(int h, int p) {
        return world.fresh(h, p);
    }

    private int worstPair() {
        int best = 0, most = -1;
        for (int code = 0; code < 36; code++) {
            int a = code / 6, b = code % 6;
            if (a < b && lostWithout(1 << a | 1 << b) > most) {
                most = lostWithout(1 << a | 1 << b);
                best = code;
            }
        }
        return best;
    }

    private int lostIn(int seconds) {
        World later = world.twin();
        for (int i = 0; i < seconds; i++) {
            later.second();
        }
        return later.lost();
    }

    private int restsIn() {
        World later = world.twin();
        for (int i = 0; i <= 600; i++) {
            boolean rests = later.transfer == null;
            for (Host host : later.hosts) {
                rests &= host.mode != 2;
            }
            if (rests) {
                return i;
            }
            later.second();
        }
        return -1;
    }

    /** The same text as Observation.of makes of the program. */
    String observation() {
        StringBuilder shown = new StringBuilder();
        for (int p = 0; p < 30; p++) {
            int set = 0;
            for (int h : world.copies(p)) {
                set |= 1 << h;
            }
            shown.append(" p").append(world.status(p)).append(',').append(set);
            if (set != 0) {
                shown.append('=').append(world.pages[p].value);
            }
        }
        for (int h = 0; h < 6; h++) {
            Host host = world.hosts[h];
            shown.append(" h").append(host.mode).append(host.connected);
            shown.append(world.used(h)).append('/').append(world.free(h));
            shown.append('@').append(host.mode == 2 ? host.deadline - world.now : -1).append(':');
            for (int p = 0; p < 30; p++) {
                shown.append(!host.replicas.containsKey(p) ? 0 : fresh(h, p) ? 1 : 2);
            }
        }
        for (int part = 0; part < 4; part++) {
            int due = part == 3 ? world.now : 0;
            shown.append(" t").append(world.transfer == null ? -1 : world.transfer[part] - due);
        }
        for (int status = -2; status <= 2; status++) {
            int n = 0;
            for (int p = 0; p < 30; p++) {
                n += status != -1 && world.status(p) == status ? 1 : 0;
            }
            shown.append(" c").append(n);
        }
        for (int set = 0; set < 64; set++) {
            shown.append(set == 0 ? " w" : ",").append(lostWithout(set));
        }
        for (int seconds : new int[] {1, 7, 60, 600}) {
            shown.append(" l").append(lostIn(seconds));
        }
        shown.append(" pair").append(worstPair()).append(" rest").append(restsIn());
        shown.append(" done").append(world.completed).append(" time").append(world.now);
        shown.append(" saved").append(saved.size()).append(" text").append(text.length());
        shown.append(" error").append(errorPosition());
        return shown.toString();
    }
}
