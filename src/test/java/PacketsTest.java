import java.util.NoSuchElementException;

/** Promises 7, 12, 13 and 14: packets on links, lost and dropped ones, and headers. */
public final class PacketsTest {
    public static void main(String[] args) {
        withoutAHopPacketsAreDropped();
        headersOfAQuestion();
        headersOfAMessage();
        portsChooseAmongHops();
        aLinkThatGoesDownDropsItsPackets();
        lostPackets();
        lostPacketsOnTheWay();
        sixtyPacketsAtMost();
        lifeEnds();
        Check.end();
    }

    private static OverlayNet routed() {
        OverlayNet x = new OverlayNet();
        x.directory(false);
        x.run(12);
        return x;
    }

    private static void words(String when, OverlayNet x, int k, int... due) {
        for (int w = 0; w < due.length; w++) {
            Check.due(when + ": header(" + k + ", " + w + ")", x.header(k, w), due[w]);
        }
    }

    private static void withoutAHopPacketsAreDropped() {
        OverlayNet x = new OverlayNet();
        x.machine(0, 0, 0);
        x.lose(5);
        x.send(0, 1, 1);
        Check.due("no hop: packets", x.packets(), 0);
        Check.due("no hop: dropped", x.dropped(), 3);
        Check.due("no hop: none fewer are to be lost", x.lose(0), 5);
    }

    private static void headersOfAQuestion() {
        OverlayNet x = routed();
        x.machine(0, 0, 0);
        x.send(0, 1, 1);
        Check.due("question: packets", x.packets(), 3);
        words("question", x, 0, 0x4500, 56, 4113, 2560, 2561, 49152 + 41, 0, 54923);
        words("question", x, 1, 0x4500, 56, 4113, 2560, 2562, 49152 + 41, 0, 54922);
        words("question", x, 2, 0x4500, 56, 4113, 2560, 2563, 49152 + 41, 0, 54921);
        x.run(1);
        words("question at a spine", x, 0, 0x4500, 56, 15 * 256 + 17, 2560, 2561, 49152 + 41, 0, 55179);
        Check.due("question at a spine: packets", x.packets(), 3);
        x.run(1);
        Check.due("question opened: packets", x.packets(), 0);
        Check.due("question opened: dropped", x.dropped(), 0);
    }

    private static void headersOfAMessage() {
        OverlayNet x = new OverlayNet();
        x.machine(1, 0, 0);
        x.machine(3, 2, 5);
        x.machine(2, 2, 6);
        x.run(12);
        x.send(1, 6, -1);
        Check.due("message: packets", x.packets(), 1);
        words("message", x, 0, 0x4500, 56, 4113, 2563, 2562, 49152 + 27, 2);
        x.run(2);
        Check.due("receipt: packets", x.packets(), 1);
        words("receipt", x, 0, 0x4500, 56, 4113, 2562, 2563, 49152 + 33, 2);
        int sum = 0;
        for (int w = 0; w < 8; w++) {
            sum += x.header(0, w);
        }
        Check.due("the words of a header together", sum % 65536 + sum / 65536, 65535);
    }

    /** Machine 0 asks with port 41, machine 1 with 54: over two hops the second and the first. */
    private static void portsChooseAmongHops() {
        OverlayNet x = routed();
        x.machine(0, 0, 0);
        x.machine(0, 1, 0);
        x.send(0, 1, 1);
        x.send(1, 1, 1);
        Check.due("two questions: packets", x.packets(), 6);
        Check.due("two questions: port", x.header(3, 5), 49152 + 54);
        x.link(0, false);
        Check.due("over spine 4: dropped", x.dropped(), 3);
        Check.due("over spine 5: port", x.header(0, 5), 49152 + 41);
        x.link(1, false);
        Check.due("over spine 5: dropped", x.dropped(), 6);
    }

    private static void aLinkThatGoesDownDropsItsPackets() {
        OverlayNet x = routed();
        x.machine(0, 0, 0);
        x.send(0, 1, 1);
        x.link(0, false);
        Check.due("another link: packets", x.packets(), 3);
        x.run(1);
        x.link(5, false);
        Check.due("on the way to leaf 2: packets", x.packets(), 2);
        Check.due("on the way to leaf 2: dropped", x.dropped(), 1);
        Check.due("the first that is left", x.header(0, 4), 2561);
        Check.due("the second that is left", x.header(1, 4), 2563);
        Check.refused("header(2, 4)", NoSuchElementException.class, () -> x.header(2, 4));
        x.link(5, true);
        Check.due("a link that goes up drops none", x.packets(), 2);
    }

    private static void lostPackets() {
        OverlayNet x = routed();
        x.machine(0, 0, 0);
        Check.due("lose(0)", x.lose(0), 0);
        Check.due("lose(2)", x.lose(2), 2);
        x.send(0, 1, 1);
        Check.due("two are lost: packets", x.packets(), 1);
        Check.due("two are lost: dropped", x.dropped(), 2);
        Check.due("the third is not", x.header(0, 4), 2563);
        Check.due("none are left to be lost", x.lose(0), 0);
        Check.due("lose(100)", x.lose(100), 100);
    }

    private static void lostPacketsOnTheWay() {
        OverlayNet x = routed();
        x.machine(0, 0, 0);
        x.send(0, 1, 1);
        x.lose(1);
        Check.due("nothing is sent by lose", x.packets(), 3);
        x.run(1);
        Check.due("lost at the spine: packets", x.packets(), 2);
        Check.due("lost at the spine: dropped", x.dropped(), 1);
        Check.due("the first one is lost", x.header(0, 4), 2562);
    }

    private static void sixtyPacketsAtMost() {
        OverlayNet x = routed();
        x.machine(0, 0, 0);
        for (int i = 1; i <= 20; i++) {
            x.move(0, i % 2);
        }
        Check.due("sixty: packets", x.packets(), 60);
        Check.due("sixty: dropped", x.dropped(), 0);
        x.lose(4);
        x.move(0, 3);
        Check.due("more than sixty: packets", x.packets(), 60);
        Check.due("more than sixty: dropped", x.dropped(), 3);
        Check.due("more than sixty: none fewer are to be lost", x.lose(0), 4);
        Check.due("the last one", x.header(59, 4), 2563);
        Check.refused("header(60, 0)", NoSuchElementException.class, () -> x.header(60, 0));
        x.run(1);
        Check.due("sixty forwarded: packets", x.packets(), 56);
        Check.due("sixty forwarded: dropped", x.dropped(), 7);
        x.run(1);
        Check.due("sixty opened: packets", x.packets(), 0);
    }

    /** A packet for leaf 2, which has no links left, goes round by 4, 1, 5 and another leaf. */
    private static void lifeEnds() {
        OverlayNet x = new OverlayNet();
        x.machine(0, 0, 0);
        x.directory(false);
        x.link(5, false);
        x.link(2, false);
        x.run(10);
        x.link(2, true);
        x.link(4, false);
        x.run(3);
        x.move(0, 3);
        x.run(2);
        Check.due("round: packets", x.packets(), 1);
        x.run(13);
        Check.due("round: packets", x.packets(), 1);
        words("round, the last life", x, 0, 0x4500, 56, 256 + 17, 2563, 2562, 49152 + 41, 0);
        Check.due("round: dropped", x.dropped(), 0);
        x.run(1);
        Check.due("life has ended: packets", x.packets(), 0);
        Check.due("life has ended: dropped", x.dropped(), 1);
    }
}
