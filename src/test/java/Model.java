import java.util.ArrayDeque;
import java.util.ArrayList;
import java.util.HashMap;
import java.util.List;
import java.util.Map;
import java.util.NoSuchElementException;
import java.util.TreeMap;

/**
 * The document told a second time, as near to its words as can be and with no thought of room or
 * speed; ModelRunsTest holds OverlayNet against it.
 */
public final class Model {
    private static final int ALL = 15;

    private enum Kind { MESSAGE, RECEIPT, QUESTION, ANSWER }

    private record Frame(Kind kind, int sender, int receiver, int one, int two) { }

    private record Message(int address, int value) { }

    private record Entry(int leaf, int version, int confirmed) { }

    private static final class Packet {
        Frame frame;
        int version;
        int origin;
        int target;
        int life = 16;
        int onLink;
        int towards;

        int port() {
            return (13 * frame.sender() + 7 * frame.receiver()) % 64;
        }
    }

    private static final class Machine {
        int number;
        int tenant;
        int address;
        int leaf;
        int version = 1;
        Integer tried;
        final ArrayDeque<Message> row = new ArrayDeque<>();
        final Map<Integer, Integer> left = new HashMap<>();
        final Map<Integer, Integer> knows = new HashMap<>();
        final Map<Integer, List<Integer>> got = new HashMap<>();

        int gotFrom(int other) {
            return got.getOrDefault(other, List.of()).size();
        }
    }

    private final boolean[] up = {true, true, true, true, true, true, true, true};
    private final Map<List<Integer>, Integer> told = new HashMap<>();
    private final List<Machine> machines = new ArrayList<>();
    private final List<Map<Integer, Entry>> tables = new ArrayList<>();
    private final Map<Integer, Entry> directory = new TreeMap<>();
    private boolean reachable = true;
    private List<Packet> onLinks = new ArrayList<>();
    private final ArrayDeque<Frame> sent = new ArrayDeque<>();
    private int now;
    private int toLose;
    private int drops;
    private int receipts;

    public Model() {
        for (int leaf = 0; leaf < 4; leaf++) {
            tables.add(new TreeMap<>());
        }
    }

    public int machine(int leaf, int tenant, int address) {
        argument(leaf >= 0 && leaf <= 3 && tenant >= 0 && tenant <= 2 && address >= 0 && address <= 7);
        state(machines.size() < 8 && find(tenant, address) == null);
        Machine made = new Machine();
        made.number = machines.size();
        made.tenant = tenant;
        made.address = address;
        made.leaf = leaf;
        machines.add(made);
        tables.get(leaf).put(made.number, new Entry(leaf, 1, now));
        return made.number;
    }

    public void move(int machine, int leaf) {
        argument(isMachine(machine) && leaf >= 0 && leaf <= 3);
        Machine m = machines.get(machine);
        state(m.leaf != leaf);
        m.version++;
        tables.get(m.leaf).remove(machine);
        m.leaf = leaf;
        tables.get(leaf).put(machine, new Entry(leaf, m.version, now));
        sent.add(new Frame(Kind.ANSWER, machine, ALL, m.address, machine));
        handleAll();
    }

    public void send(int machine, int address, int value) {
        argument(isMachine(machine) && address >= 0 && address <= 7
                && machines.get(machine).address != address);
        Machine m = machines.get(machine);
        state(m.row.size() < 4);
        m.row.add(new Message(address, value));
        if (m.row.size() == 1) {
            tryNow(m);
        }
        handleAll();
    }

    public void link(int link, boolean goesUp) {
        argument(link >= 0 && link <= 7);
        state(up[link] != goesUp);
        up[link] = goesUp;
        for (int leaf = 0; leaf < 4; leaf++) {
            told.remove(List.of(link / 2, 4 + link % 2, leaf));
            told.remove(List.of(4 + link % 2, link / 2, leaf));
        }
        int before = onLinks.size();
        onLinks.removeIf(p -> p.onLink == link);
        drops += before - onLinks.size();
    }

    public boolean directory(boolean isReachable) {
        boolean was = reachable;
        reachable = isReachable;
        return was;
    }

    public int lose(int n) {
        argument(n >= 0 && (long) n + toLose <= 100);
        toLose += n;
        return toLose;
    }

    public int run(int n) {
        argument(n >= 1 && n <= 60);
        int before = receipts;
        for (int i = 0; i < n; i++) {
            tick();
        }
        return receipts - before;
    }

    public int now() {
        return now;
    }

    public int distance(int node, int leaf) {
        argument(node >= 0 && node <= 5 && leaf >= 0 && leaf <= 3);
        if (node == leaf) {
            return 0;
        }
        int least = 16;
        for (int neighbour : neighbours(node)) {
            least = Math.min(least, toldBy(node, neighbour, leaf));
        }
        return Math.min(16, least + 1);
    }

    public int hop(int node, int leaf, int k) {
        argument(node >= 0 && node <= 5 && leaf >= 0 && leaf <= 3);
        List<Integer> hops = hops(node, leaf);
        element(k >= 0 && k < hops.size());
        return hops.get(k);
    }

    public int packets() {
        return onLinks.size();
    }

    public int dropped() {
        return drops;
    }

    public int header(int k, int w) {
        argument(w >= 0 && w <= 7);
        element(k >= 0 && k < onLinks.size());
        Packet p = onLinks.get(k);
        int tenant = machines.get(p.frame.sender()).tenant;
        int[] words = {0x4500, 56, 256 * p.life + 17, 2560 + p.origin, 2560 + p.target,
            49152 + p.port(), tenant, 0};
        int sum = 0;
        for (int word : words) {
            sum += word;
        }
        words[7] = 65535 - (sum / 65536 + sum % 65536);
        return words[w];
    }

    public int entry(int leaf, int machine, int what) {
        argument(leaf >= 0 && leaf <= 3 && isMachine(machine) && what >= 0 && what <= 2);
        Entry entry = tables.get(leaf).get(machine);
        element(entry != null);
        return what == 0 ? entry.leaf() : what == 1 ? entry.version() : entry.confirmed();
    }

    public int known(int machine, int address) {
        argument(isMachine(machine) && address >= 0 && address <= 7);
        element(machines.get(machine).knows.containsKey(address));
        return machines.get(machine).knows.get(address);
    }

    public int row(int machine) {
        argument(isMachine(machine));
        return machines.get(machine).row.size();
    }

    public int received(int machine, int from) {
        argument(isMachine(machine) && isMachine(from));
        return machines.get(machine).gotFrom(from);
    }

    public int value(int machine, int from) {
        argument(isMachine(machine) && isMachine(from));
        int count = machines.get(machine).gotFrom(from);
        element(count > 0);
        return machines.get(machine).got.get(from).get(count - 1);
    }

    private static void argument(boolean good) {
        if (!good) {
            throw new IllegalArgumentException();
        }
    }

    private static void state(boolean good) {
        if (!good) {
            throw new IllegalStateException();
        }
    }

    private static void element(boolean good) {
        if (!good) {
            throw new NoSuchElementException();
        }
    }

    private boolean isMachine(int number) {
        return number >= 0 && number < machines.size();
    }

    private Machine find(int tenant, int address) {
        for (Machine m : machines) {
            if (m.tenant == tenant && m.address == address) {
                return m;
            }
        }
        return null;
    }

    private static int linkOf(int node, int neighbour) {
        return node < 4 ? 2 * node + neighbour - 4 : 2 * neighbour + node - 4;
    }

    private List<Integer> neighbours(int node) {
        List<Integer> found = new ArrayList<>();
        for (int other = 0; other < 6; other++) {
            if (node < 4 != other < 4 && up[linkOf(node, other)]) {
                found.add(other);
            }
        }
        return found;
    }

    private int toldBy(int node, int neighbour, int leaf) {
        return told.getOrDefault(List.of(node, neighbour, leaf), 16);
    }

    private List<Integer> hops(int node, int leaf) {
        int distance = distance(node, leaf);
        List<Integer> found = new ArrayList<>();
        if (distance != 0 && distance != 16) {
            for (int neighbour : neighbours(node)) {
                if (toldBy(node, neighbour, leaf) == distance - 1) {
                    found.add(neighbour);
                }
            }
        }
        return found;
    }

    private void advertise(int node) {
        for (int neighbour : neighbours(node)) {
            for (int leaf = 0; leaf < 4; leaf++) {
                boolean back = hops(node, leaf).contains(neighbour);
                told.put(List.of(neighbour, node, leaf), back ? 16 : distance(node, leaf));
            }
        }
    }

    private void forward(Packet p, int node) {
        List<Integer> hops = hops(node, p.target);
        if (hops.isEmpty() || onLinks.size() >= 60) {
            drops++;
        } else if (toLose > 0) {
            toLose--;
            drops++;
        } else {
            p.towards = hops.get(p.port() % hops.size());
            p.onLink = linkOf(node, p.towards);
            onLinks.add(p);
        }
    }

    private void ship(Frame frame, int target) {
        Machine sender = machines.get(frame.sender());
        Packet p = new Packet();
        p.frame = frame;
        p.version = sender.version;
        p.origin = sender.leaf;
        p.target = target;
        forward(p, sender.leaf);
    }

    private void shipToOthers(Frame frame, int leaf) {
        for (int other = 0; other < 4; other++) {
            if (other != leaf) {
                ship(frame, other);
            }
        }
    }

    private void learn(int leaf, int machine, int place, int version) {
        Entry old = tables.get(leaf).get(machine);
        if (old == null || old.version() <= version) {
            tables.get(leaf).put(machine, new Entry(place, version, now));
        }
    }

    private void handleAll() {
        while (!sent.isEmpty()) {
            handle(sent.remove());
        }
    }

    private void handle(Frame frame) {
        Machine sender = machines.get(frame.sender());
        Map<Integer, Entry> table = tables.get(sender.leaf);
        if (frame.kind() == Kind.QUESTION) {
            Machine asked = find(sender.tenant, frame.one());
            if (asked != null && table.containsKey(asked.number)) {
                give(sender, new Frame(Kind.ANSWER, asked.number, sender.number, frame.one(),
                        asked.number));
                return;
            }
        }
        if (frame.receiver() == ALL) {
            giveToOthers(frame, sender.leaf);
            shipToOthers(frame, sender.leaf);
            return;
        }
        Machine receiver = machines.get(frame.receiver());
        if (receiver.leaf == sender.leaf) {
            give(receiver, frame);
        } else if (table.containsKey(receiver.number)
                && table.get(receiver.number).leaf() != sender.leaf) {
            ship(frame, table.get(receiver.number).leaf());
        } else {
            shipToOthers(frame, sender.leaf);
        }
    }

    private void giveToOthers(Frame frame, int leaf) {
        Machine sender = machines.get(frame.sender());
        for (Machine m : machines) {
            if (m != sender && m.tenant == sender.tenant && m.leaf == leaf) {
                give(m, frame);
            }
        }
    }

    private void open(Packet p) {
        learn(p.target, p.frame.sender(), p.origin, p.version);
        if (p.frame.receiver() == ALL) {
            giveToOthers(p.frame, p.target);
        } else if (machines.get(p.frame.receiver()).leaf == p.target) {
            give(machines.get(p.frame.receiver()), p.frame);
        }
    }

    private static int firstNumber(Machine m) {
        return 1 + m.left.getOrDefault(m.row.peek().address(), 0);
    }

    private void tryNow(Machine m) {
        m.tried = now;
        Message first = m.row.peek();
        Integer target = m.knows.get(first.address());
        if (target == null) {
            sent.add(new Frame(Kind.QUESTION, m.number, ALL, first.address(), 0));
        } else {
            sent.add(new Frame(Kind.MESSAGE, m.number, target, firstNumber(m), first.value()));
        }
    }

    private void give(Machine m, Frame frame) {
        switch (frame.kind()) {
            case MESSAGE -> {
                if (frame.one() == m.gotFrom(frame.sender()) + 1) {
                    m.got.computeIfAbsent(frame.sender(), k -> new ArrayList<>()).add(frame.two());
                    receipts++;
                }
                sent.add(new Frame(Kind.RECEIPT, m.number, frame.sender(),
                        m.gotFrom(frame.sender()), 0));
            }
            case RECEIPT -> {
                if (m.row.isEmpty()) {
                    return;
                }
                int address = m.row.peek().address();
                Integer target = m.knows.get(address);
                if (target != null && target == frame.sender() && firstNumber(m) == frame.one()) {
                    m.left.merge(address, 1, Integer::sum);
                    m.row.remove();
                    if (!m.row.isEmpty()) {
                        tryNow(m);
                    }
                }
            }
            case QUESTION -> {
                if (frame.one() == m.address) {
                    sent.add(new Frame(Kind.ANSWER, m.number, frame.sender(), m.address, m.number));
                }
            }
            case ANSWER -> {
                m.knows.put(frame.one(), frame.two());
                if (!m.row.isEmpty() && m.row.peek().address() == frame.one()) {
                    tryNow(m);
                }
            }
        }
    }

    private void arrive(Packet p) {
        if (p.towards == p.target) {
            open(p);
        } else if (--p.life == 0) {
            drops++;
        } else {
            forward(p, p.towards);
        }
    }

    private void useDirectory() {
        for (Machine m : machines) {
            Entry old = directory.get(m.number);
            if (old == null || old.version() <= m.version) {
                directory.put(m.number, new Entry(m.leaf, m.version, 0));
            }
        }
        for (int leaf = 0; leaf < 4; leaf++) {
            for (Map.Entry<Integer, Entry> told : directory.entrySet()) {
                if (machines.get(told.getKey()).leaf != leaf) {
                    learn(leaf, told.getKey(), told.getValue().leaf(), told.getValue().version());
                }
            }
        }
    }

    private void tick() {
        now++;
        List<Packet> arriving = onLinks;
        onLinks = new ArrayList<>();
        for (Packet p : arriving) {
            arrive(p);
            handleAll();
        }
        advertise(now % 6);
        if (now % 6 == 0 && reachable) {
            useDirectory();
        }
        for (int leaf = 0; leaf < 4; leaf++) {
            int here = leaf;
            tables.get(leaf).values().removeIf(e -> e.leaf() != here && now - e.confirmed() == 60);
        }
        for (Machine m : machines) {
            if (!m.row.isEmpty() && (m.tried == null || now - m.tried >= 8)) {
                tryNow(m);
            }
            handleAll();
        }
    }
}
