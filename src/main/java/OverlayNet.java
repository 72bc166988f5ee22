import java.util.Arrays;
import java.util.NoSuchElementException;

/**
 * Leaves and spines that route by told distances, and over them tunnels that join the machines of
 * a tenant. All rows are made once and used again, so that no call but machine makes an object.
 */
public final class OverlayNet {
    private static final int NONE = -1;

    private static final int LEAVES = 4;
    private static final int NODES = 6;
    private static final int LINKS = 8;
    private static final int TENANTS = 3;
    private static final int ADDRESSES = 8;
    private static final int MOST_MACHINES = 8;
    private static final int ROW_PLACES = 4;
    private static final int ENTRY_PARTS = 3;

    private static final int NO_WAY = 16;
    private static final int FULL_LIFE = 16;
    private static final int PORTS = 64;
    private static final int MOST_ON_LINKS = 60;
    private static final int MOST_TO_LOSE = 100;

    private static final int HEADER_WORDS = 8;
    private static final int CHECK_WORD = 7;
    private static final int FULL_WORD = 65535;

    private static final int MOST_TICKS = 60;
    private static final int DIRECTORY_PERIOD = 6;
    private static final int TICKS_REMEMBERED = 60;
    private static final int TICKS_BETWEEN_TRIES = 8;

    private static final int MESSAGE = 0;
    private static final int RECEIPT = 1;
    private static final int QUESTION = 2;
    private static final int ANSWER = 3;
    private static final int ALL = 15;

    /** Twice what can ever wait: of all frames only a move's answer brings more than one new one,
     *  one of each other machine, and nothing waits behind it then. */
    private static final int QUEUE_PLACES = 16;
    private static final int MOST_FRAMES_AT_ONCE = 1000000;

    private final Fabric fabric = new Fabric();
    private final Tables tables = new Tables();
    private final Directory register = new Directory();
    private final FrameQueue queue = new FrameQueue();
    private final Machine[] machines = new Machine[MOST_MACHINES];
    private int machineCount;
    private int time;
    private int receivedSoFar;

    public OverlayNet() {
    }

    public int machine(int leaf, int tenant, int address)
            throws IllegalArgumentException, IllegalStateException {
        if (!isLeaf(leaf) || !isBelow(tenant, TENANTS) || !isBelow(address, ADDRESSES)) {
            throw new IllegalArgumentException("no such leaf, tenant or address");
        }
        if (machineCount == MOST_MACHINES || machineWith(tenant, address) != NONE) {
            throw new IllegalStateException("no machine is left, or the address is taken");
        }
        int number = machineCount;
        machines[number] = new Machine(number, tenant, address, leaf);
        machineCount++;
        tables.learn(leaf, number, leaf, machines[number].version, time);
        return number;
    }

    public void move(int machine, int leaf)
            throws IllegalArgumentException, IllegalStateException {
        if (!isMachine(machine) || !isLeaf(leaf)) {
            throw new IllegalArgumentException("no such machine or leaf");
        }
        Machine moved = machines[machine];
        if (moved.leaf == leaf) {
            throw new IllegalStateException("it is at this leaf");
        }
        tables.forget(moved.leaf, machine);
        moved.leaf = leaf;
        moved.version++;
        tables.learn(leaf, machine, leaf, moved.version, time);
        queue.put(ANSWER, machine, ALL, moved.address, machine);
        settle();
    }

    public void send(int machine, int address, int value)
            throws IllegalArgumentException, IllegalStateException {
        if (!isMachine(machine) || !isBelow(address, ADDRESSES)
                || machines[machine].address == address) {
            throw new IllegalArgumentException("no such machine or address, or its own");
        }
        Machine sender = machines[machine];
        if (sender.rowLength == ROW_PLACES) {
            throw new IllegalStateException("the row is full");
        }
        sender.append(address, value);
        if (sender.rowLength == 1) {
            sender.attempt(time, queue);
        }
        settle();
    }

    public void link(int link, boolean up)
            throws IllegalArgumentException, IllegalStateException {
        if (!isBelow(link, LINKS)) {
            throw new IllegalArgumentException("no such link");
        }
        if (fabric.routes.isUp(link) == up) {
            throw new IllegalStateException("it is so already");
        }
        fabric.routes.turn(link, up);
        fabric.dropAllOn(link);
    }

    public boolean directory(boolean reachable) {
        boolean before = register.reachable;
        register.reachable = reachable;
        return before;
    }

    public int lose(int n)
            throws IllegalArgumentException {
        if (n < 0 || n > MOST_TO_LOSE - fabric.toLose) {
            throw new IllegalArgumentException("below 0, or too many");
        }
        fabric.toLose += n;
        return fabric.toLose;
    }

    public int run(int n)
            throws IllegalArgumentException {
        if (n < 1 || n > MOST_TICKS) {
            throw new IllegalArgumentException("not 1 .. 60");
        }
        int before = receivedSoFar;
        for (int i = 0; i < n; i++) {
            tick();
        }
        return receivedSoFar - before;
    }

    public int now() {
        return time;
    }

    public int distance(int node, int leaf)
            throws IllegalArgumentException {
        if (!isBelow(node, NODES) || !isLeaf(leaf)) {
            throw new IllegalArgumentException("no such node or leaf");
        }
        return fabric.routes.distances[node][leaf];
    }

    public int hop(int node, int leaf, int k)
            throws IllegalArgumentException, NoSuchElementException {
        if (!isBelow(node, NODES) || !isLeaf(leaf)) {
            throw new IllegalArgumentException("no such node or leaf");
        }
        int found = fabric.routes.hopAt(node, leaf, k);
        if (found == NONE) {
            throw new NoSuchElementException("no such hop");
        }
        return found;
    }

    public int packets() {
        return fabric.onLinksCount;
    }

    public int dropped() {
        return fabric.droppedSoFar;
    }

    public int header(int k, int w)
            throws IllegalArgumentException, NoSuchElementException {
        if (!isBelow(w, HEADER_WORDS)) {
            throw new IllegalArgumentException("no such word");
        }
        if (!isBelow(k, fabric.onLinksCount)) {
            throw new NoSuchElementException("no such packet");
        }
        return fabric.onLinks[k].headerWord(w);
    }

    public int entry(int leaf, int machine, int what)
            throws IllegalArgumentException, NoSuchElementException {
        if (!isLeaf(leaf) || !isMachine(machine) || !isBelow(what, ENTRY_PARTS)) {
            throw new IllegalArgumentException("no such leaf, machine or what");
        }
        if (!tables.has(leaf, machine)) {
            throw new NoSuchElementException("nothing");
        }
        switch (what) {
            case 0:
                return tables.places[leaf][machine];
            case 1:
                return tables.versions[leaf][machine];
            default:
                return tables.confirmed[leaf][machine];
        }
    }

    public int known(int machine, int address)
            throws IllegalArgumentException, NoSuchElementException {
        if (!isMachine(machine) || !isBelow(address, ADDRESSES)) {
            throw new IllegalArgumentException("no such machine or address");
        }
        int found = machines[machine].knownAt[address];
        if (found == NONE) {
            throw new NoSuchElementException("it does not know it");
        }
        return found;
    }

    public int row(int machine)
            throws IllegalArgumentException {
        if (!isMachine(machine)) {
            throw new IllegalArgumentException("no such machine");
        }
        return machines[machine].rowLength;
    }

    public int received(int machine, int from)
            throws IllegalArgumentException {
        if (!isMachine(machine) || !isMachine(from)) {
            throw new IllegalArgumentException("no such machines");
        }
        return machines[machine].receivedFrom[from];
    }

    public int value(int machine, int from)
            throws IllegalArgumentException, NoSuchElementException {
        if (!isMachine(machine) || !isMachine(from)) {
            throw new IllegalArgumentException("no such machines");
        }
        if (machines[machine].receivedFrom[from] == 0) {
            throw new NoSuchElementException("nothing was received");
        }
        return machines[machine].latestFrom[from];
    }

    private static boolean isBelow(int number, int end) {
        return number >= 0 && number < end;
    }

    private static boolean isLeaf(int number) {
        return isBelow(number, LEAVES);
    }

    private boolean isMachine(int number) {
        return isBelow(number, machineCount);
    }

    private int machineWith(int tenant, int address) {
        for (int i = 0; i < machineCount; i++) {
            if (machines[i].tenant == tenant && machines[i].address == address) {
                return i;
            }
        }
        return NONE;
    }

    private void tick() {
        time++;
        int arrivals = fabric.takeArrivals();
        for (int i = 0; i < arrivals; i++) {
            arrive(fabric.arriving[i]);
            settle();
        }
        fabric.routes.advertise(time % NODES);
        if (time % DIRECTORY_PERIOD == 0 && register.reachable) {
            spreadDirectory();
        }
        tables.forgetDue(time);
        for (int i = 0; i < machineCount; i++) {
            if (machines[i].isDue(time)) {
                machines[i].attempt(time, queue);
                settle();
            }
        }
    }

    private void arrive(Packet packet) {
        if (packet.node == packet.target) {
            open(packet);
            return;
        }
        packet.life--;
        if (packet.life == 0) {
            fabric.droppedSoFar++;
        } else {
            fabric.forward(packet, packet.node);
        }
    }

    private void open(Packet packet) {
        tables.learn(packet.target, packet.frame.sender, packet.source, packet.version, time);
        giveAt(packet.target, packet.frame);
    }

    private void spreadDirectory() {
        for (int i = 0; i < machineCount; i++) {
            register.announce(machines[i]);
        }
        for (int leaf = 0; leaf < LEAVES; leaf++) {
            for (int i = 0; i < machineCount; i++) {
                if (machines[i].leaf != leaf) {
                    tables.learn(leaf, i, register.leaves[i], register.versions[i], time);
                }
            }
        }
    }

    /** Handles all frames that were sent, and those that are sent thereby. */
    private void settle() {
        for (int i = 0; i < MOST_FRAMES_AT_ONCE && queue.length > 0; i++) {
            handle(queue.first());
            queue.removeFirst();
        }
    }

    private void handle(Frame frame) {
        Machine sender = machines[frame.sender];
        if (frame.kind == QUESTION && isAnsweredOnTheSpot(sender, frame.first)) {
            return;
        }
        giveAt(sender.leaf, frame);
        int only = placeOf(frame.receiver, sender.leaf);
        for (int leaf = 0; leaf < LEAVES; leaf++) {
            if (leaf != sender.leaf && (only == NONE || only == leaf)) {
                fabric.ship(frame, sender, leaf);
            }
        }
    }

    private boolean isAnsweredOnTheSpot(Machine asker, int address) {
        int asked = machineWith(asker.tenant, address);
        if (asked == NONE || !tables.has(asker.leaf, asked)) {
            return false;
        }
        if (asker.takesAnswer(address, asked)) {
            asker.attempt(time, queue);
        }
        return true;
    }

    /** Where a leaf has to bring a frame for a receiver; NONE when that is to every leaf. */
    private int placeOf(int receiver, int leaf) {
        if (receiver == ALL) {
            return NONE;
        }
        if (machines[receiver].leaf == leaf) {
            return leaf;
        }
        int place = tables.places[leaf][receiver];
        return place == leaf ? NONE : place;
    }

    private void giveAt(int leaf, Frame frame) {
        for (int i = 0; i < machineCount; i++) {
            if (machines[i].leaf == leaf && isMeant(machines[i], frame)) {
                give(machines[i], frame);
            }
        }
    }

    private boolean isMeant(Machine machine, Frame frame) {
        if (frame.receiver != ALL) {
            return frame.receiver == machine.number;
        }
        return frame.sender != machine.number
                && machines[frame.sender].tenant == machine.tenant;
    }

    private void give(Machine machine, Frame frame) {
        switch (frame.kind) {
            case MESSAGE:
                giveMessage(machine, frame);
                break;
            case RECEIPT:
                if (machine.takesReceipt(frame.sender, frame.first)) {
                    machine.attempt(time, queue);
                }
                break;
            case QUESTION:
                if (machine.address == frame.first) {
                    queue.put(ANSWER, machine.number, frame.sender, frame.first, machine.number);
                }
                break;
            default:
                if (machine.takesAnswer(frame.first, frame.second)) {
                    machine.attempt(time, queue);
                }
                break;
        }
    }

    private void giveMessage(Machine machine, Frame frame) {
        if (machine.takesMessage(frame.sender, frame.first, frame.second)) {
            receivedSoFar++;
        }
        int count = machine.receivedFrom[frame.sender];
        queue.put(RECEIPT, machine.number, frame.sender, count, 0);
    }

    /** Which links are up, what neighbours told, and the distances and hops that follow from it. */
    private static final class Routes {
        private final boolean[] down = new boolean[LINKS];
        /** By node, then by neighbour and leaf. Over a link that is down it is always NO_WAY,
         *  because turning a link forgets what was told and nobody tells anything over it. */
        private final int[][] told = new int[NODES][NODES * LEAVES];
        final int[][] distances = new int[NODES][LEAVES];
        /** By node and leaf: bit n stands for the neighbour n. */
        private final int[][] hopBits = new int[NODES][LEAVES];

        Routes() {
            for (int node = 0; node < NODES; node++) {
                Arrays.fill(told[node], NO_WAY);
                for (int leaf = 0; leaf < LEAVES; leaf++) {
                    distances[node][leaf] = leaf == node ? 0 : NO_WAY;
                }
            }
        }

        private static int firstNeighbour(int node) {
            return node < LEAVES ? LEAVES : 0;
        }

        private static int neighboursEnd(int node) {
            return node < LEAVES ? NODES : LEAVES;
        }

        static int linkBetween(int node, int neighbour) {
            int leaf = Math.min(node, neighbour);
            int spine = Math.max(node, neighbour);
            return 2 * leaf + spine - LEAVES;
        }

        boolean isUp(int link) {
            return !down[link];
        }

        void turn(int link, boolean up) {
            int leaf = link / 2;
            int spine = LEAVES + link % 2;
            down[link] = !up;
            forgetTold(leaf, spine);
            forgetTold(spine, leaf);
        }

        private void forgetTold(int node, int neighbour) {
            for (int leaf = 0; leaf < LEAVES; leaf++) {
                told[node][neighbour * LEAVES + leaf] = NO_WAY;
            }
            findWays(node);
        }

        void advertise(int node) {
            int end = neighboursEnd(node);
            for (int neighbour = firstNeighbour(node); neighbour < end; neighbour++) {
                if (isUp(linkBetween(node, neighbour))) {
                    tell(node, neighbour);
                }
            }
        }

        private void tell(int node, int neighbour) {
            for (int leaf = 0; leaf < LEAVES; leaf++) {
                boolean isBack = isHop(node, leaf, neighbour);
                told[neighbour][node * LEAVES + leaf] = isBack ? NO_WAY : distances[node][leaf];
            }
            findWays(neighbour);
        }

        private void findWays(int node) {
            for (int leaf = 0; leaf < LEAVES; leaf++) {
                if (leaf != node) {
                    findWay(node, leaf);
                }
            }
        }

        private void findWay(int node, int leaf) {
            int least = NO_WAY - 1;
            int bits = 0;
            int end = neighboursEnd(node);
            for (int neighbour = firstNeighbour(node); neighbour < end; neighbour++) {
                int heard = told[node][neighbour * LEAVES + leaf];
                if (heard < least) {
                    least = heard;
                    bits = 1 << neighbour;
                } else if (heard == least && heard < NO_WAY - 1) {
                    bits |= 1 << neighbour;
                }
            }
            distances[node][leaf] = least + 1;
            hopBits[node][leaf] = bits;
        }

        private boolean isHop(int node, int leaf, int neighbour) {
            return (hopBits[node][leaf] >> neighbour & 1) == 1;
        }

        int hopCount(int node, int leaf) {
            return Integer.bitCount(hopBits[node][leaf]);
        }

        int hopAt(int node, int leaf, int k) {
            int before = 0;
            for (int neighbour = 0; neighbour < NODES; neighbour++) {
                if (isHop(node, leaf, neighbour)) {
                    if (before == k) {
                        return neighbour;
                    }
                    before++;
                }
            }
            return NONE;
        }
    }

    private static final class Frame {
        int kind;
        int sender;
        int receiver;
        int first;
        int second;

        void copy(Frame other) {
            kind = other.kind;
            sender = other.sender;
            receiver = other.receiver;
            first = other.first;
            second = other.second;
        }
    }

    /** The frames that were sent and are not handled yet, as a ring of places. */
    private static final class FrameQueue {
        private final Frame[] places = new Frame[QUEUE_PLACES];
        private int start;
        int length;

        FrameQueue() {
            for (int i = 0; i < QUEUE_PLACES; i++) {
                places[i] = new Frame();
            }
        }

        void put(int kind, int sender, int receiver, int first, int second) {
            if (length == QUEUE_PLACES) {
                return;
            }
            Frame frame = places[(start + length) % QUEUE_PLACES];
            frame.kind = kind;
            frame.sender = sender;
            frame.receiver = receiver;
            frame.first = first;
            frame.second = second;
            length++;
        }

        Frame first() {
            return places[start];
        }

        void removeFirst() {
            start = (start + 1) % QUEUE_PLACES;
            length--;
        }
    }

    private static final class Packet {
        final Frame frame = new Frame();
        int tenant;
        int version;
        int source;
        int target;
        int port;
        int life;
        /** The link that it is on, and the node where it will arrive. */
        int link;
        int node;

        void copy(Packet other) {
            frame.copy(other.frame);
            tenant = other.tenant;
            version = other.version;
            source = other.source;
            target = other.target;
            port = other.port;
            life = other.life;
        }

        int headerWord(int w) {
            return w == CHECK_WORD ? checkWord() : plainWord(w);
        }

        private int plainWord(int w) {
            switch (w) {
                case 0:
                    return 0x4500;
                case 1:
                    return 56;
                case 2:
                    return 256 * life + 17;
                case 3:
                    return 2560 + source;
                case 4:
                    return 2560 + target;
                case 5:
                    return 49152 + port;
                default:
                    return tenant;
            }
        }

        private int checkWord() {
            int sum = 0;
            for (int w = 0; w < CHECK_WORD; w++) {
                sum += plainWord(w);
                sum = (sum & FULL_WORD) + (sum >> 16);
            }
            return FULL_WORD - sum;
        }
    }

    /** The packets on links, in the order in which they were sent, and the ways that they take. */
    private static final class Fabric {
        final Routes routes = new Routes();
        Packet[] onLinks = new Packet[MOST_ON_LINKS];
        /** Apart from onLinks, because in a tick the first is forwarded before the last arrives. */
        Packet[] arriving = new Packet[MOST_ON_LINKS];
        private final Packet fresh = new Packet();
        int onLinksCount;
        int toLose;
        int droppedSoFar;

        Fabric() {
            for (int i = 0; i < MOST_ON_LINKS; i++) {
                onLinks[i] = new Packet();
                arriving[i] = new Packet();
            }
        }

        /** Takes all packets off the links, into arriving: how many they are. */
        int takeArrivals() {
            Packet[] taken = onLinks;
            onLinks = arriving;
            arriving = taken;
            int count = onLinksCount;
            onLinksCount = 0;
            return count;
        }

        void ship(Frame frame, Machine sender, int target) {
            fresh.frame.copy(frame);
            fresh.tenant = sender.tenant;
            fresh.version = sender.version;
            fresh.source = sender.leaf;
            fresh.target = target;
            fresh.port = (13 * frame.sender + 7 * frame.receiver) % PORTS;
            fresh.life = FULL_LIFE;
            forward(fresh, sender.leaf);
        }

        void forward(Packet packet, int node) {
            int hops = routes.hopCount(node, packet.target);
            if (hops == 0 || isTakenAway()) {
                droppedSoFar++;
                return;
            }
            int next = routes.hopAt(node, packet.target, packet.port % hops);
            Packet sent = onLinks[onLinksCount];
            sent.copy(packet);
            sent.link = Routes.linkBetween(node, next);
            sent.node = next;
            onLinksCount++;
        }

        private boolean isTakenAway() {
            if (onLinksCount == MOST_ON_LINKS) {
                return true;
            }
            if (toLose > 0) {
                toLose--;
                return true;
            }
            return false;
        }

        void dropAllOn(int link) {
            int kept = 0;
            for (int i = 0; i < onLinksCount; i++) {
                Packet packet = onLinks[i];
                if (packet.link != link) {
                    onLinks[i] = onLinks[kept];
                    onLinks[kept] = packet;
                    kept++;
                }
            }
            droppedSoFar += onLinksCount - kept;
            onLinksCount = kept;
        }
    }

    /** What each leaf has of each machine. */
    private static final class Tables {
        final int[][] places = new int[LEAVES][MOST_MACHINES];
        final int[][] versions = new int[LEAVES][MOST_MACHINES];
        final int[][] confirmed = new int[LEAVES][MOST_MACHINES];

        Tables() {
            for (int leaf = 0; leaf < LEAVES; leaf++) {
                Arrays.fill(places[leaf], NONE);
            }
        }

        boolean has(int leaf, int machine) {
            return places[leaf][machine] != NONE;
        }

        void learn(int leaf, int machine, int place, int version, int time) {
            if (has(leaf, machine) && versions[leaf][machine] > version) {
                return;
            }
            places[leaf][machine] = place;
            versions[leaf][machine] = version;
            confirmed[leaf][machine] = time;
        }

        void forget(int leaf, int machine) {
            places[leaf][machine] = NONE;
        }

        void forgetDue(int time) {
            for (int leaf = 0; leaf < LEAVES; leaf++) {
                for (int machine = 0; machine < MOST_MACHINES; machine++) {
                    if (places[leaf][machine] != leaf
                            && time - confirmed[leaf][machine] >= TICKS_REMEMBERED) {
                        forget(leaf, machine);
                    }
                }
            }
        }
    }

    private static final class Directory {
        final int[] leaves = new int[MOST_MACHINES];
        final int[] versions = new int[MOST_MACHINES];
        boolean reachable = true;

        void announce(Machine machine) {
            if (versions[machine.number] <= machine.version) {
                leaves[machine.number] = machine.leaf;
                versions[machine.number] = machine.version;
            }
        }
    }

    private static final class Machine {
        final int number;
        final int tenant;
        final int address;
        int leaf;
        int version = 1;
        private final int[] rowAddresses = new int[ROW_PLACES];
        private final int[] rowValues = new int[ROW_PLACES];
        int rowLength;
        /** How many messages for each address have left the row. */
        private final int[] leftFor = new int[ADDRESSES];
        final int[] knownAt = new int[ADDRESSES];
        final int[] receivedFrom = new int[MOST_MACHINES];
        final int[] latestFrom = new int[MOST_MACHINES];
        /** Long enough ago at first that a machine that has not tried is due. */
        private int tried = -TICKS_BETWEEN_TRIES;

        Machine(int number, int tenant, int address, int leaf) {
            this.number = number;
            this.tenant = tenant;
            this.address = address;
            this.leaf = leaf;
            Arrays.fill(knownAt, NONE);
        }

        void append(int address, int value) {
            rowAddresses[rowLength] = address;
            rowValues[rowLength] = value;
            rowLength++;
        }

        boolean isDue(int time) {
            return rowLength > 0 && time - tried >= TICKS_BETWEEN_TRIES;
        }

        void attempt(int time, FrameQueue queue) {
            tried = time;
            int target = rowAddresses[0];
            if (knownAt[target] == NONE) {
                queue.put(QUESTION, number, ALL, target, 0);
            } else {
                queue.put(MESSAGE, number, knownAt[target], firstNumber(), rowValues[0]);
            }
        }

        private int firstNumber() {
            return 1 + leftFor[rowAddresses[0]];
        }

        /** Whether the message is received. */
        boolean takesMessage(int from, int count, int value) {
            if (count != receivedFrom[from] + 1) {
                return false;
            }
            receivedFrom[from] = count;
            latestFrom[from] = value;
            return true;
        }

        /** Whether the machine has to try now. */
        boolean takesReceipt(int from, int count) {
            if (rowLength == 0 || knownAt[rowAddresses[0]] != from || count != firstNumber()) {
                return false;
            }
            leftFor[rowAddresses[0]]++;
            rowLength--;
            System.arraycopy(rowAddresses, 1, rowAddresses, 0, rowLength);
            System.arraycopy(rowValues, 1, rowValues, 0, rowLength);
            return rowLength > 0;
        }

        /** Whether the machine has to try now. */
        boolean takesAnswer(int address, int machine) {
            knownAt[address] = machine;
            return rowLength > 0 && rowAddresses[0] == address;
        }
    }
}
