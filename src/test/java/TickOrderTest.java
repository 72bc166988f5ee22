import java.util.NoSuchElementException;

/** The steps of a tick, one before the other, and that frames are handled in between. */
public final class TickOrderTest {
    public static void main(String[] args) {
        arrivalsBeforeAdvertising();
        arrivalsBeforeTheDirectory();
        arrivalsBeforeForgetting();
        advertisingBeforeTries();
        theDirectoryBeforeTries();
        forgettingBeforeTries();
        arrivalsInTheOrderOfSending();
        triesInTheOrderOfMachines();
        Check.end();
    }

    /** Machine i of tenant 0 has address i and is at leaves[i]; the directory has told at 6 and 12. */
    private static OverlayNet told(int... leaves) {
        OverlayNet x = new OverlayNet();
        for (int i = 0; i < leaves.length; i++) {
            x.machine(leaves[i], 0, i);
        }
        x.run(12);
        return x;
    }

    private static void count(String when, OverlayNet x, int packets, int dropped) {
        Check.due(when + ": packets", x.packets(), packets);
        Check.due(when + ": dropped", x.dropped(), dropped);
    }

    /** Spine 4 hears of leaf 1 again in tick 13, when the packet for leaf 1 has been dropped there. */
    private static void arrivalsBeforeAdvertising() {
        OverlayNet x = told(0, 0);
        x.send(1, 6, 1);
        x.link(2, false);
        x.link(2, true);
        count("sent to spine 4", x, 3, 0);
        x.run(1);
        count("tick 13", x, 2, 1);
        Check.due("tick 13: the hop is there", x.hop(4, 1, 0), 1);
        Check.due("tick 13: the first packet", x.header(0, 4), 2562);
    }

    /** The receipt goes where the message came from; then the directory tells of the move. */
    private static void arrivalsBeforeTheDirectory() {
        OverlayNet x = told(0, 1);
        x.run(4);
        x.send(0, 1, 7);
        x.lose(3);
        x.move(0, 2);
        Check.due("tick 18: received", x.run(2), 1);
        count("tick 18: the receipt", x, 1, 3);
        Check.due("tick 18: the receipt goes to", x.header(0, 4), 2560);
        Check.due("tick 18: the table names", x.entry(1, 0, 0), 2);
    }

    /** The receipt at 72 makes machine 0 try; its leaf forgets machine 2 in that tick, but later. */
    private static void arrivalsBeforeForgetting() {
        OverlayNet x = told(0, 1, 2);
        x.directory(false);
        x.run(56);
        x.send(0, 1, 7);
        x.send(0, 2, 8);
        Check.due("tick 71: received", x.run(3), 1);
        x.run(1);
        Check.due("tick 72: answered on the spot", x.known(0, 2), 2);
        count("tick 72: one message", x, 1, 0);
        Check.refused("tick 72: forgotten", NoSuchElementException.class, () -> x.entry(0, 2, 0));
    }

    /** Leaf 0 hears of ways again in tick 22, and then machine 0 tries over them. */
    private static void advertisingBeforeTries() {
        OverlayNet x = told(0);
        x.run(2);
        x.lose(3);
        x.send(0, 1, 7);
        x.run(7);
        x.link(0, false);
        x.link(0, true);
        x.link(1, false);
        x.link(1, true);
        Check.due("tick 21: no way", x.distance(0, 1), 16);
        count("tick 21", x, 0, 3);
        x.run(1);
        count("tick 22", x, 3, 3);
    }

    /** The directory tells leaf 0 of machine 1 in tick 18, and then machine 0 asks. */
    private static void theDirectoryBeforeTries() {
        OverlayNet x = new OverlayNet();
        x.machine(0, 0, 0);
        x.machine(1, 0, 1);
        x.directory(false);
        x.run(10);
        x.lose(3);
        x.send(0, 1, 7);
        x.run(7);
        x.directory(true);
        count("tick 17", x, 0, 3);
        x.run(1);
        Check.due("tick 18: answered on the spot", x.known(0, 1), 1);
        count("tick 18: one message", x, 1, 3);
    }

    /** Leaf 0 forgets machine 1 in tick 72, and then machine 0 sends it a message. */
    private static void forgettingBeforeTries() {
        OverlayNet x = told(0, 1);
        x.directory(false);
        x.run(52);
        x.lose(1);
        x.send(0, 1, 7);
        x.run(7);
        count("tick 71", x, 0, 1);
        x.run(1);
        count("tick 72: to all leaves", x, 3, 1);
        Check.due("tick 72: a message", x.header(0, 5), 49152 + 7);
    }

    /** Of two packets the news of the first move comes first, that of the second later. */
    private static void arrivalsInTheOrderOfSending() {
        OverlayNet x = told(0, 3);
        x.send(0, 1, 7);
        x.send(1, 0, 8);
        x.move(0, 1);
        Check.due("packet 0 is the message", x.header(0, 5), 49152 + 7);
        Check.due("packet 1 is the other message", x.header(1, 5), 49152 + 13);
        Check.due("packet 2 is an answer", x.header(2, 5), 49152 + 41);
        Check.due("tick 14", x.run(2), 1);
        Check.due("the receipt was sent before the news came", x.header(0, 4), 2560);
        Check.due("the message is sent again when it came", x.header(1, 4), 2561);
        Check.due("the message is sent again: port", x.header(1, 5), 49152 + 13);
        count("tick 14", x, 2, 0);
    }

    /** Both are due at 20; what machine 0 sends is handled before machine 1 has its turn. */
    private static void triesInTheOrderOfMachines() {
        OverlayNet x = told(0, 0, 3);
        x.lose(4);
        x.send(1, 6, 1);
        x.send(0, 2, 1);
        count("tick 12", x, 0, 4);
        x.run(8);
        count("tick 20", x, 4, 4);
        Check.due("first machine 0", x.header(0, 5), 49152 + 14);
        Check.due("then machine 1", x.header(1, 5), 49152 + 54);
    }
}
