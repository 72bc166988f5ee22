import java.util.List;
import java.util.NoSuchElementException;

/**
 * Every way in which a call is refused, with the last arguments on either side that are not; that a
 * call that throws changes nothing; and that of two exceptions the first one is thrown.
 */
public final class RefusalsTest {
    private static final Class<IllegalArgumentException> ARGUMENT = IllegalArgumentException.class;
    private static final Class<IllegalStateException> STATE = IllegalStateException.class;
    private static final Class<NoSuchElementException> ELEMENT = NoSuchElementException.class;

    private interface Scene {
        OverlayNet make();
    }

    private interface Call {
        void on(OverlayNet x);
    }

    public static void main(String[] args) {
        machineIsRefused();
        machineIsNot();
        moveIsRefused();
        moveIsNot();
        sendIsRefused();
        sendIsNot();
        linkIsRefused();
        linkIsNot();
        directoryNeverIs();
        loseIsRefused();
        loseIsNot();
        runIsRefused();
        runIsNot();
        distanceIsRefused();
        hopIsRefused();
        headerIsRefused();
        entryIsRefused();
        knownIsRefused();
        rowIsRefused();
        receivedIsRefused();
        valueIsRefused();
        Check.end();
    }

    /** Three machines, of which 0 and 1 are of one tenant; a message of 0 to 1 is under way. */
    private static OverlayNet some() {
        OverlayNet x = new OverlayNet();
        x.machine(0, 0, 0);
        x.machine(1, 0, 1);
        x.machine(2, 1, 1);
        x.run(12);
        x.send(0, 1, 70);
        x.run(4);
        x.send(0, 1, 71);
        x.lose(60);
        x.link(7, false);
        return x;
    }

    /** 8 machines, 4 messages in the row of machine 0, 60 packets on links, 100 more to be lost. */
    private static OverlayNet full() {
        OverlayNet x = new OverlayNet();
        x.directory(false);
        x.run(12);
        for (int i = 0; i < 8; i++) {
            x.machine(i % 4, i % 3, i);
        }
        for (int i = 0; i < 4; i++) {
            x.send(0, 7, 80 + i);
        }
        for (int i = 0; i < 20; i++) {
            x.move(0, 1 - i % 2);
        }
        x.lose(100);
        return x;
    }

    /** The two numbers next to 0 .. end - 1, and the ends of int. */
    private static int[] outside(int end) {
        return new int[] {-1, end, Integer.MIN_VALUE, Integer.MAX_VALUE};
    }

    /** Asks one of two equal objects; afterwards, and 9 ticks later, they have to look the same. */
    private static void refused(Scene scene, String what, Class<? extends RuntimeException> due, Call call) {
        for (Look look : Look.values()) {
            for (int ticks = 0; ticks <= 9; ticks += 9) {
                OverlayNet asked = scene.make();
                OverlayNet other = scene.make();
                Check.refused(what, due, () -> call.on(asked));
                if (ticks > 0) {
                    Check.due(what + " is refused, then run(9)", asked.run(ticks), other.run(ticks));
                }
                same(what + " is refused, " + ticks + " ticks later", look.at(asked), look.at(other));
                Check.due(what + " is refused: directory(true)", asked.directory(true), other.directory(true));
                Check.due(what + " is refused: lose(0)", asked.lose(0), other.lose(0));
            }
        }
    }

    private static void same(String when, List<String> got, List<String> due) {
        Check.due(when + ": how many answers", got.size(), due.size());
        for (int i = 0; i < Math.min(got.size(), due.size()); i++) {
            Check.due(when + ": a look", got.get(i), due.get(i));
        }
    }

    private static void machineIsRefused() {
        for (int bad : outside(4)) {
            refused(RefusalsTest::some, "machine(" + bad + ", 0, 2)", ARGUMENT, x -> x.machine(bad, 0, 2));
            refused(RefusalsTest::some, "machine(" + bad + ", 0, 1), taken", ARGUMENT, x -> x.machine(bad, 0, 1));
            refused(RefusalsTest::full, "machine(" + bad + ", 0, 1), full", ARGUMENT, x -> x.machine(bad, 0, 1));
        }
        for (int bad : outside(3)) {
            refused(RefusalsTest::some, "machine(0, " + bad + ", 2)", ARGUMENT, x -> x.machine(0, bad, 2));
            refused(RefusalsTest::full, "machine(0, " + bad + ", 1), full", ARGUMENT, x -> x.machine(0, bad, 1));
        }
        for (int bad : outside(8)) {
            refused(RefusalsTest::some, "machine(0, 0, " + bad + ")", ARGUMENT, x -> x.machine(0, 0, bad));
            refused(RefusalsTest::full, "machine(0, 0, " + bad + "), full", ARGUMENT, x -> x.machine(0, 0, bad));
        }
        for (int i = 0; i < 4; i++) {
            int leaf = i;
            refused(RefusalsTest::some, "machine(" + leaf + ", 0, 0), taken", STATE, x -> x.machine(leaf, 0, 0));
            refused(RefusalsTest::some, "machine(" + leaf + ", 1, 1), taken", STATE, x -> x.machine(leaf, 1, 1));
            refused(RefusalsTest::full, "machine(" + leaf + ", 0, 1), full", STATE, x -> x.machine(leaf, 0, 1));
            refused(RefusalsTest::full, "machine(" + leaf + ", 1, 7), full, taken", STATE, x -> x.machine(leaf, 1, 7));
        }
    }

    private static void machineIsNot() {
        for (int leaf = 0; leaf <= 3; leaf++) {
            OverlayNet x = new OverlayNet();
            Check.due("machine(" + leaf + ", 0, 0)", x.machine(leaf, 0, 0), 0);
            Check.due("made at leaf " + leaf, x.entry(leaf, 0, 0), leaf);
        }
        OverlayNet x = new OverlayNet();
        Check.due("the least tenant and address", x.machine(0, 0, 0), 0);
        Check.due("the same address in another tenant", x.machine(0, 1, 0), 1);
        Check.due("the greatest tenant, the same address", x.machine(0, 2, 0), 2);
        Check.due("another address of a tenant", x.machine(0, 2, 1), 3);
        Check.due("the greatest tenant and address", x.machine(3, 2, 7), 4);
        Check.due("the greatest address", x.machine(3, 0, 7), 5);
        Check.due("a seventh machine", x.machine(3, 0, 6), 6);
        Check.due("an eighth machine", x.machine(3, 0, 5), 7);
    }

    private static void moveIsRefused() {
        refused(OverlayNet::new, "move(0, 0) without machines", ARGUMENT, x -> x.move(0, 0));
        refused(RefusalsTest::full, "move(8, 0)", ARGUMENT, x -> x.move(8, 0));
        for (int bad : outside(3)) {
            refused(RefusalsTest::some, "move(" + bad + ", 3)", ARGUMENT, x -> x.move(bad, 3));
            refused(RefusalsTest::some, "move(" + bad + ", 4)", ARGUMENT, x -> x.move(bad, 4));
        }
        for (int bad : outside(4)) {
            refused(RefusalsTest::some, "move(0, " + bad + ")", ARGUMENT, x -> x.move(0, bad));
        }
        for (int i = 0; i < 3; i++) {
            int here = i;
            refused(RefusalsTest::some, "move(" + here + ", " + here + ")", STATE, x -> x.move(here, here));
        }
    }

    private static void moveIsNot() {
        for (int leaf = 1; leaf <= 3; leaf++) {
            OverlayNet x = some();
            x.move(0, leaf);
            Check.due("move(0, " + leaf + ")", x.entry(leaf, 0, 0), leaf);
        }
        OverlayNet x = some();
        x.move(2, 0);
        Check.due("move of the last machine to the least leaf", x.entry(0, 2, 0), 0);
        OverlayNet y = full();
        y.move(7, 0);
        Check.due("move of the eighth machine", y.entry(0, 7, 0), 0);
        Check.refused("the leaf where it was", ELEMENT, () -> y.entry(3, 7, 0));
        y.move(7, 3);
        Check.due("and back", y.entry(3, 7, 1), 3);
    }

    private static void sendIsRefused() {
        refused(OverlayNet::new, "send(0, 1, 1) without machines", ARGUMENT, x -> x.send(0, 1, 1));
        refused(RefusalsTest::full, "send(8, 1, 1)", ARGUMENT, x -> x.send(8, 1, 1));
        for (int bad : outside(3)) {
            refused(RefusalsTest::some, "send(" + bad + ", 1, 1)", ARGUMENT, x -> x.send(bad, 1, 1));
        }
        for (int bad : outside(8)) {
            refused(RefusalsTest::some, "send(0, " + bad + ", 1)", ARGUMENT, x -> x.send(0, bad, 1));
            refused(RefusalsTest::full, "send(0, " + bad + ", 1), full", ARGUMENT, x -> x.send(0, bad, 1));
        }
        refused(RefusalsTest::some, "send(0, 0, 1), its own", ARGUMENT, x -> x.send(0, 0, 1));
        refused(RefusalsTest::some, "send(2, 1, 1), its own", ARGUMENT, x -> x.send(2, 1, 1));
        refused(RefusalsTest::full, "send(0, 0, 1), its own, full", ARGUMENT, x -> x.send(0, 0, 1));
        refused(RefusalsTest::full, "send(0, 7, 1), full", STATE, x -> x.send(0, 7, 1));
        refused(RefusalsTest::full, "send(0, 3, 1), full", STATE, x -> x.send(0, 3, 1));
    }

    private static void sendIsNot() {
        OverlayNet x = some();
        x.send(2, 0, Integer.MIN_VALUE);
        x.send(2, 7, Integer.MAX_VALUE);
        x.send(2, 0, 0);
        Check.due("three messages of the last machine", x.row(2), 3);
        x.send(2, 7, -1);
        Check.due("four messages", x.row(2), 4);
        OverlayNet y = full();
        y.send(7, 0, 1);
        Check.due("a message of the eighth machine", y.row(7), 1);
    }

    private static void linkIsRefused() {
        for (int bad : outside(8)) {
            refused(RefusalsTest::some, "link(" + bad + ", true)", ARGUMENT, x -> x.link(bad, true));
            refused(RefusalsTest::some, "link(" + bad + ", false)", ARGUMENT, x -> x.link(bad, false));
        }
        for (int i = 0; i < 7; i++) {
            int link = i;
            refused(RefusalsTest::some, "link(" + link + ", true), up", STATE, x -> x.link(link, true));
        }
        refused(RefusalsTest::some, "link(7, false), down", STATE, x -> x.link(7, false));
        refused(OverlayNet::new, "link(7, true), new", STATE, x -> x.link(7, true));
    }

    private static void linkIsNot() {
        for (int link = 0; link < 8; link++) {
            int one = link;
            OverlayNet x = new OverlayNet();
            x.link(link, false);
            Check.refused("link(" + link + ", false) again", STATE, () -> x.link(one, false));
            x.link(link, true);
            Check.refused("link(" + link + ", true) again", STATE, () -> x.link(one, true));
        }
    }

    private static void directoryNeverIs() {
        OverlayNet x = new OverlayNet();
        Check.due("directory(true), reachable", x.directory(true), true);
        Check.due("directory(false), reachable", x.directory(false), true);
        Check.due("directory(false), not reachable", x.directory(false), false);
        Check.due("directory(true), not reachable", x.directory(true), false);
        Check.due("directory(true), reachable again", x.directory(true), true);
    }

    private static void loseIsRefused() {
        for (int bad : outside(101)) {
            refused(OverlayNet::new, "lose(" + bad + ")", ARGUMENT, x -> x.lose(bad));
        }
        for (int bad : outside(41)) {
            refused(RefusalsTest::some, "lose(" + bad + ") behind 60", ARGUMENT, x -> x.lose(bad));
        }
        for (int bad : outside(1)) {
            refused(RefusalsTest::full, "lose(" + bad + ") behind 100", ARGUMENT, x -> x.lose(bad));
        }
        int wrapped = Integer.MAX_VALUE - 59;
        refused(RefusalsTest::some, "lose(" + wrapped + ") behind 60", ARGUMENT, x -> x.lose(wrapped));
    }

    private static void loseIsNot() {
        Check.due("lose(0)", new OverlayNet().lose(0), 0);
        Check.due("lose(1)", new OverlayNet().lose(1), 1);
        Check.due("lose(100)", new OverlayNet().lose(100), 100);
        Check.due("lose(40) behind 60", some().lose(40), 100);
        Check.due("lose(0) behind 60", some().lose(0), 60);
        Check.due("lose(0) behind 100", full().lose(0), 100);
    }

    private static void runIsRefused() {
        for (int bad : new int[] {0, -1, 61, Integer.MIN_VALUE, Integer.MAX_VALUE}) {
            refused(RefusalsTest::some, "run(" + bad + ")", ARGUMENT, x -> x.run(bad));
        }
    }

    private static void runIsNot() {
        OverlayNet x = new OverlayNet();
        Check.due("run(1)", x.run(1), 0);
        Check.due("now after run(1)", x.now(), 1);
        Check.due("run(60)", x.run(60), 0);
        Check.due("now after run(60)", x.now(), 61);
    }

    private static void distanceIsRefused() {
        for (int bad : outside(6)) {
            refused(RefusalsTest::some, "distance(" + bad + ", 0)", ARGUMENT, x -> x.distance(bad, 0));
            refused(RefusalsTest::some, "distance(" + bad + ", 4)", ARGUMENT, x -> x.distance(bad, 4));
        }
        for (int bad : outside(4)) {
            refused(RefusalsTest::some, "distance(0, " + bad + ")", ARGUMENT, x -> x.distance(0, bad));
            refused(RefusalsTest::some, "distance(5, " + bad + ")", ARGUMENT, x -> x.distance(5, bad));
        }
        OverlayNet x = some();
        Check.due("distance(0, 0)", x.distance(0, 0), 0);
        Check.due("distance(0, 3)", x.distance(0, 3), 2);
        Check.due("distance(5, 0)", x.distance(5, 0), 1);
        Check.due("distance(5, 3), whose link is down", x.distance(5, 3), 16);
    }

    private static void hopIsRefused() {
        for (int bad : outside(6)) {
            refused(RefusalsTest::some, "hop(" + bad + ", 0, 0)", ARGUMENT, x -> x.hop(bad, 0, 0));
            refused(RefusalsTest::some, "hop(" + bad + ", 0, -1)", ARGUMENT, x -> x.hop(bad, 0, -1));
        }
        for (int bad : outside(4)) {
            refused(RefusalsTest::some, "hop(0, " + bad + ", 0)", ARGUMENT, x -> x.hop(0, bad, 0));
            refused(RefusalsTest::some, "hop(0, " + bad + ", 2)", ARGUMENT, x -> x.hop(0, bad, 2));
        }
        for (int bad : outside(2)) {
            refused(RefusalsTest::some, "hop(0, 1, " + bad + ")", ELEMENT, x -> x.hop(0, 1, bad));
        }
        for (int bad : outside(1)) {
            refused(RefusalsTest::some, "hop(4, 3, " + bad + ")", ELEMENT, x -> x.hop(4, 3, bad));
        }
        refused(RefusalsTest::some, "hop(0, 0, 0), itself", ELEMENT, x -> x.hop(0, 0, 0));
        refused(RefusalsTest::some, "hop(5, 3, 0), no way", ELEMENT, x -> x.hop(5, 3, 0));
        refused(OverlayNet::new, "hop(0, 1, 0), nothing told", ELEMENT, x -> x.hop(0, 1, 0));
        OverlayNet x = some();
        Check.due("hop(0, 1, 0)", x.hop(0, 1, 0), 4);
        Check.due("hop(0, 1, 1)", x.hop(0, 1, 1), 5);
        Check.due("hop(4, 3, 0)", x.hop(4, 3, 0), 3);
        Check.due("hop(5, 0, 0)", x.hop(5, 0, 0), 0);
    }

    private static void headerIsRefused() {
        for (int bad : outside(8)) {
            refused(RefusalsTest::some, "header(0, " + bad + ")", ARGUMENT, x -> x.header(0, bad));
            refused(RefusalsTest::some, "header(1, " + bad + ")", ARGUMENT, x -> x.header(1, bad));
            refused(OverlayNet::new, "header(0, " + bad + "), no packets", ARGUMENT, x -> x.header(0, bad));
        }
        for (int bad : outside(1)) {
            refused(RefusalsTest::some, "header(" + bad + ", 0)", ELEMENT, x -> x.header(bad, 0));
            refused(RefusalsTest::some, "header(" + bad + ", 7)", ELEMENT, x -> x.header(bad, 7));
        }
        for (int bad : outside(60)) {
            refused(RefusalsTest::full, "header(" + bad + ", 0), full", ELEMENT, x -> x.header(bad, 0));
        }
        refused(OverlayNet::new, "header(0, 0), no packets", ELEMENT, x -> x.header(0, 0));
        Check.due("header(0, 0)", some().header(0, 0), 0x4500);
        Check.due("header(0, 7)", some().header(0, 7), 131070 - (72009 + 4096 + 1 + 7));
        Check.due("header(59, 6)", full().header(59, 6), 0);
        Check.due("header(59, 3)", full().header(59, 3), 2561);
    }

    private static void entryIsRefused() {
        for (int bad : outside(4)) {
            refused(RefusalsTest::some, "entry(" + bad + ", 0, 0)", ARGUMENT, x -> x.entry(bad, 0, 0));
        }
        for (int bad : outside(3)) {
            refused(RefusalsTest::some, "entry(0, " + bad + ", 0)", ARGUMENT, x -> x.entry(0, bad, 0));
            refused(RefusalsTest::some, "entry(0, 0, " + bad + ")", ARGUMENT, x -> x.entry(0, 0, bad));
            refused(RefusalsTest::full, "entry(0, 1, " + bad + "), nothing", ARGUMENT, x -> x.entry(0, 1, bad));
        }
        refused(RefusalsTest::full, "entry(0, 8, 0)", ARGUMENT, x -> x.entry(0, 8, 0));
        refused(OverlayNet::new, "entry(0, 0, 0) without machines", ARGUMENT, x -> x.entry(0, 0, 0));
        for (int i = 0; i < 3; i++) {
            int what = i;
            refused(RefusalsTest::full, "entry(0, 1, " + what + ")", ELEMENT, x -> x.entry(0, 1, what));
        }
        Check.due("entry(0, 0, 0)", some().entry(0, 0, 0), 0);
        Check.due("entry(3, 2, 1)", some().entry(3, 2, 1), 1);
        Check.due("entry(3, 2, 2)", some().entry(3, 2, 2), 12);
        Check.due("entry(3, 7, 2)", full().entry(3, 7, 2), 12);
    }

    private static void knownIsRefused() {
        for (int bad : outside(3)) {
            refused(RefusalsTest::some, "known(" + bad + ", 1)", ARGUMENT, x -> x.known(bad, 1));
        }
        for (int bad : outside(8)) {
            refused(RefusalsTest::some, "known(0, " + bad + ")", ARGUMENT, x -> x.known(0, bad));
            refused(RefusalsTest::full, "known(" + bad + ", 1)", ARGUMENT, x -> x.known(bad, 1));
        }
        refused(OverlayNet::new, "known(0, 0) without machines", ARGUMENT, x -> x.known(0, 0));
        refused(RefusalsTest::some, "known(0, 0), its own", ELEMENT, x -> x.known(0, 0));
        refused(RefusalsTest::some, "known(0, 7), nobody's", ELEMENT, x -> x.known(0, 7));
        refused(RefusalsTest::some, "known(1, 0), not asked for", ELEMENT, x -> x.known(1, 0));
        refused(RefusalsTest::some, "known(2, 1), its own", ELEMENT, x -> x.known(2, 1));
        Check.due("known(0, 1)", some().known(0, 1), 1);
    }

    private static void rowIsRefused() {
        for (int bad : outside(3)) {
            refused(RefusalsTest::some, "row(" + bad + ")", ARGUMENT, x -> x.row(bad));
        }
        refused(RefusalsTest::full, "row(8)", ARGUMENT, x -> x.row(8));
        refused(OverlayNet::new, "row(0) without machines", ARGUMENT, x -> x.row(0));
        Check.due("row(0)", some().row(0), 1);
        Check.due("row(2)", some().row(2), 0);
        Check.due("row(0), full", full().row(0), 4);
        Check.due("row(7)", full().row(7), 0);
    }

    private static void receivedIsRefused() {
        for (int bad : outside(3)) {
            refused(RefusalsTest::some, "received(0, " + bad + ")", ARGUMENT, x -> x.received(0, bad));
            refused(RefusalsTest::some, "received(" + bad + ", 0)", ARGUMENT, x -> x.received(bad, 0));
            refused(RefusalsTest::some, "received(" + bad + ", itself)", ARGUMENT, x -> x.received(bad, bad));
        }
        refused(RefusalsTest::full, "received(0, 8)", ARGUMENT, x -> x.received(0, 8));
        refused(RefusalsTest::full, "received(8, 0)", ARGUMENT, x -> x.received(8, 0));
        refused(OverlayNet::new, "received(0, 0) without machines", ARGUMENT, x -> x.received(0, 0));
        Check.due("received(1, 0)", some().received(1, 0), 1);
        Check.due("received(0, 1)", some().received(0, 1), 0);
        Check.due("received(0, 0), itself", some().received(0, 0), 0);
        Check.due("received(2, 0), of another tenant", some().received(2, 0), 0);
        Check.due("received(7, 7), itself", full().received(7, 7), 0);
    }

    private static void valueIsRefused() {
        for (int bad : outside(3)) {
            refused(RefusalsTest::some, "value(0, " + bad + ")", ARGUMENT, x -> x.value(0, bad));
            refused(RefusalsTest::some, "value(1, " + bad + ")", ARGUMENT, x -> x.value(1, bad));
            refused(RefusalsTest::some, "value(" + bad + ", 0)", ARGUMENT, x -> x.value(bad, 0));
        }
        refused(RefusalsTest::full, "value(0, 8)", ARGUMENT, x -> x.value(0, 8));
        refused(RefusalsTest::full, "value(8, 0)", ARGUMENT, x -> x.value(8, 0));
        refused(OverlayNet::new, "value(0, 0) without machines", ARGUMENT, x -> x.value(0, 0));
        refused(RefusalsTest::some, "value(0, 1)", ELEMENT, x -> x.value(0, 1));
        refused(RefusalsTest::some, "value(1, 1), itself", ELEMENT, x -> x.value(1, 1));
        refused(RefusalsTest::some, "value(2, 0), of another tenant", ELEMENT, x -> x.value(2, 0));
        refused(RefusalsTest::full, "value(7, 7), itself", ELEMENT, x -> x.value(7, 7));
        Check.due("value(1, 0)", some().value(1, 0), 70);
    }
}
