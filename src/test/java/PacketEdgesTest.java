import java.util.NoSuchElementException;

/** The sentences of "Packets", and of promises 12 to 14, that name an edge. */
public final class PacketEdgesTest {
    public static void main(String[] args) {
        portsAreTakenModuloSixtyFour();
        theReceiverOfAFrameForAllCountsFifteen();
        portModuloOneTwoOrThreeHops();
        withoutAHopAtASpineItIsDropped();
        aPacketArrivesInTheNextTick();
        asManyAreLostAsAreToBeLost();
        theSixtiethIsSentAndTheNextIsNot();
        whileSixtyAreOnLinksNoneFewerAreToBeLost();
        thereIsRoomAgainWhenPacketsAreDropped();
        noMoreThanSixtyAreSentInATick();
        aLinkThatGoesDownDropsPacketsBothWays();
        whatIsSentAfterADropIsBehindTheOthers();
        aLinkThatGoesUpDropsNone();
        lifeFallsAtOtherNodesAlone();
        aPacketWithItsLastLifeIsOpened();
        aPacketWhoseLifeFallsToZeroIsDropped();
        theVersionIsTheOneThatTheSenderHasThen();
        theWordsOfAHeaderMakeSixteenOnes();
        Check.end();
    }

    /** No machines; all ways are told; the directory tells nothing; NOW is 12. */
    private static OverlayNet routed() {
        OverlayNet x = new OverlayNet();
        x.directory(false);
        x.run(12);
        return x;
    }

    /** Machine i has address i and is at leaf i modulo 4; all tables are full; NOW is 12. */
    private static OverlayNet eight() {
        OverlayNet x = new OverlayNet();
        for (int i = 0; i < 8; i++) {
            x.machine(i % 4, 0, i);
        }
        x.run(12);
        return x;
    }

    private static void count(String when, OverlayNet x, int packets, int dropped) {
        Check.due(when + ": packets", x.packets(), packets);
        Check.due(when + ": dropped", x.dropped(), dropped);
    }

    private static void port(int sender, int receiver, int due) {
        OverlayNet x = eight();
        x.send(sender, receiver, 1);
        count("message from " + sender + " to " + receiver, x, 1, 0);
        Check.due("port from " + sender + " to " + receiver, x.header(0, 5), 49152 + due);
    }

    /** (13 times the frame's sender + 7 times its receiver) modulo 64. */
    private static void portsAreTakenModuloSixtyFour() {
        port(0, 1, 7);
        port(1, 0, 13);
        port(1, 7, 62);
        port(5, 0, 1);
        port(2, 5, 61);
        port(3, 4, 3);
        port(7, 6, 5);
        port(7, 5, 62);
    }

    /** .. its receiver, which is 15 for all. */
    private static void theReceiverOfAFrameForAllCountsFifteen() {
        int[] due = {41, 54, 3, 16, 29, 42, 55, 4};
        for (int i = 0; i < 8; i++) {
            OverlayNet x = eight();
            x.move(i, (i + 1) % 4);
            count("move of " + i, x, 3, 0);
            Check.due("port of the move of " + i, x.header(0, 5), 49152 + due[i]);
        }
    }

    /**
     * With n hops, ordered by their numbers, the one with port modulo n others before it. Leaves 1, 2
     * and 3 have told spine 4 of their way to leaf 0 over spine 5, before spine 4 loses its own link
     * to leaf 0: then it has three hops to it.
     */
    private static OverlayNet threeHopsAtSpineFour(int receiver) {
        OverlayNet x = new OverlayNet();
        for (int i = 0; i < 8; i++) {
            x.machine(i == receiver ? 0 : 1, 0, i);
        }
        x.run(12);
        for (int link = 2; link <= 6; link += 2) {
            x.link(link, false);
            x.link(link, true);
        }
        x.run(4);
        Check.due("leaf 1 has two hops to leaf 0", x.hop(1, 0, 1), 5);
        x.link(0, false);
        for (int k = 0; k < 3; k++) {
            Check.due("hop " + k + " of spine 4 to leaf 0", x.hop(4, 0, k), k + 1);
        }
        return x;
    }

    /** Which link a message is on when it has passed a spine tells where that has sent it. */
    private static void secondLink(int sender, int receiver, int due) {
        String when = "message from " + sender + " to " + receiver;
        OverlayNet x = threeHopsAtSpineFour(receiver);
        x.send(sender, receiver, 1);
        x.run(1);
        count(when, x, 1, 0);
        x.link(due, false);
        count(when + ", link " + due + " is down", x, 0, 1);
    }

    private static void portModuloOneTwoOrThreeHops() {
        // Odd ports go over spine 5, which has one hop: 13, 1 and 27.
        secondLink(1, 0, 1);
        secondLink(5, 0, 1);
        secondLink(7, 0, 1);
        // Even ones go over spine 4, which has three: 54, 52, 26 and 14.
        secondLink(2, 4, 2);
        secondLink(4, 0, 4);
        secondLink(2, 0, 6);
        secondLink(6, 0, 6);
    }

    /** Without a hop it is dropped (and none fewer are to be lost). */
    private static void withoutAHopAtASpineItIsDropped() {
        OverlayNet x = routed();
        x.machine(0, 0, 0);
        x.send(0, 1, 1);
        x.link(3, false);
        count("the packets are on link 1", x, 3, 0);
        x.lose(1);
        x.run(1);
        count("one had no hop, one was lost", x, 1, 2);
        Check.due("the third is on a link", x.header(0, 4), 2563);
        Check.due("none are to be lost any more", x.lose(0), 0);
    }

    /** A packet that is sent is on the link and arrives in the next tick. */
    private static void aPacketArrivesInTheNextTick() {
        OverlayNet x = eight();
        x.send(0, 1, 5);
        Check.due("tick 13: received", x.run(1), 0);
        count("tick 13", x, 1, 0);
        Check.due("tick 13: life", x.header(0, 2), 256 * 15 + 17);
        Check.due("tick 14: received", x.run(1), 1);
        count("tick 14: the receipt", x, 1, 0);
        Check.due("tick 14: life of the receipt", x.header(0, 2), 256 * 16 + 17);
        x.run(1);
        Check.due("tick 15: row", x.row(0), 1);
        x.run(1);
        Check.due("tick 16: row", x.row(0), 0);
        count("tick 16", x, 0, 0);
    }

    /** While packets are to be lost, that is one fewer, and the packet is dropped instead. */
    private static void asManyAreLostAsAreToBeLost() {
        for (int lost = 0; lost <= 4; lost++) {
            OverlayNet x = routed();
            x.machine(0, 0, 0);
            x.lose(lost);
            x.send(0, 1, 1);
            int gone = Math.min(3, lost);
            count(lost + " are to be lost", x, 3 - gone, gone);
            Check.due(lost + " were to be lost", x.lose(0), lost - gone);
        }
    }

    /** Machine 0 moves between leaves 0 and 1; each move sends three packets. */
    private static OverlayNet moved(int lost, int moves) {
        OverlayNet x = routed();
        x.machine(0, 0, 0);
        x.lose(lost);
        for (int i = 0; i < moves; i++) {
            x.move(0, 1 - i % 2);
        }
        return x;
    }

    /** So it is, too, while 60 packets are on links. */
    private static void theSixtiethIsSentAndTheNextIsNot() {
        OverlayNet x = moved(1, 20);
        count("59", x, 59, 1);
        x.move(0, 1);
        count("60", x, 60, 3);
        Check.due("the last one that was sent", x.header(59, 4), 2560);
        Check.refused("header(60, 4)", NoSuchElementException.class, () -> x.header(60, 4));
        x.move(0, 0);
        count("60 still", x, 60, 6);
    }

    /** (then none fewer are to be lost) */
    private static void whileSixtyAreOnLinksNoneFewerAreToBeLost() {
        OverlayNet x = moved(0, 20);
        x.lose(2);
        x.move(0, 1);
        count("60", x, 60, 3);
        Check.due("2 are to be lost still", x.lose(0), 2);
        x.run(1);
        count("at the spine two are lost", x, 58, 5);
        Check.due("none are to be lost any more", x.lose(0), 0);
    }

    private static void thereIsRoomAgainWhenPacketsAreDropped() {
        OverlayNet x = moved(0, 21);
        count("60", x, 60, 3);
        x.link(1, false);
        count("those from leaf 0 are dropped", x, 30, 33);
        x.move(0, 2);
        count("room again", x, 33, 33);
    }

    /**
     * Seven machines at leaf 1 have a message for machine 0; each of the 20 answers for all that
     * arrive there makes all of them try, and only 60 of the 140 messages find room.
     */
    private static void noMoreThanSixtyAreSentInATick() {
        OverlayNet x = routed();
        x.machine(0, 0, 0);
        for (int i = 1; i < 8; i++) {
            x.machine(1, 0, i);
        }
        x.lose(21);
        for (int i = 1; i < 8; i++) {
            x.send(i, 0, i);
        }
        count("seven questions are lost", x, 0, 21);
        for (int i = 0; i < 20; i++) {
            x.move(0, 2 - 2 * (i % 2));
        }
        count("20 moves", x, 60, 21);
        x.run(1);
        count("at the spine", x, 60, 21);
        x.run(1);
        count("opened", x, 60, 21 + 80);
    }

    /** A packet on a link that goes down is dropped. */
    private static void aLinkThatGoesDownDropsPacketsBothWays() {
        OverlayNet x = routed();
        x.machine(0, 0, 0);
        x.machine(1, 1, 0);
        x.machine(1, 0, 1);
        x.send(2, 6, 1);
        x.run(1);
        x.send(0, 6, 1);
        count("three from spine 5, three to spine 5", x, 6, 0);
        x.link(1, false);
        count("four were on link 1", x, 2, 4);
        Check.due("the first that is left came from", x.header(0, 3), 2561);
        Check.due("the first that is left goes to", x.header(0, 4), 2562);
        Check.due("the second that is left came from", x.header(1, 3), 2561);
        Check.due("the second that is left goes to", x.header(1, 4), 2563);
        x.run(1);
        Check.due("they arrive", x.entry(2, 2, 2), 14);
        Check.due("they arrive", x.entry(3, 2, 2), 14);
        Check.refused("the dropped one does not", NoSuchElementException.class, () -> x.entry(0, 2, 2));
    }

    /** Of six packets the first three are dropped; those that are sent then take other places. */
    private static void whatIsSentAfterADropIsBehindTheOthers() {
        OverlayNet x = routed();
        x.machine(0, 0, 0);
        x.machine(1, 1, 0);
        x.send(0, 6, 1);
        x.send(1, 6, 1);
        x.link(1, false);
        count("three are left", x, 3, 3);
        x.move(0, 2);
        count("three behind them", x, 6, 3);
        int[] from = {1, 1, 1, 2, 2, 2};
        int[] to = {0, 2, 3, 0, 1, 3};
        for (int k = 0; k < 6; k++) {
            Check.due("packet " + k + " came from", x.header(k, 3), 2560 + from[k]);
            Check.due("packet " + k + " goes to", x.header(k, 4), 2560 + to[k]);
            Check.due("packet " + k + " is of tenant", x.header(k, 6), k < 3 ? 1 : 0);
        }
    }

    private static void aLinkThatGoesUpDropsNone() {
        OverlayNet x = routed();
        x.machine(0, 0, 0);
        x.link(0, false);
        x.send(0, 1, 1);
        count("over spine 5", x, 3, 0);
        x.link(0, true);
        count("link 0 is up", x, 3, 0);
        x.link(1, false);
        count("link 1 is down", x, 0, 3);
        x.link(1, true);
        count("link 1 is up", x, 0, 3);
    }

    /** A packet that arrives at its target is opened. At another node its life falls by 1. */
    private static void lifeFallsAtOtherNodesAlone() {
        OverlayNet x = routed();
        x.machine(0, 0, 0);
        x.send(0, 1, 1);
        Check.due("life at first", x.header(0, 2), 256 * 16 + 17);
        x.run(1);
        Check.due("life after a spine", x.header(2, 2), 256 * 15 + 17);
        x.run(1);
        count("opened", x, 0, 0);
    }

    /**
     * At 13 a packet from leaf 3 for leaf 2, which has no links, is sent to spine 4, and goes round
     * from there by leaf 1, spine 5 and leaf 0 or 3.
     */
    private static OverlayNet round() {
        OverlayNet x = new OverlayNet();
        x.machine(0, 0, 0);
        x.directory(false);
        x.link(5, false);
        x.link(2, false);
        x.run(10);
        x.link(2, true);
        x.link(4, false);
        x.run(3);
        x.move(0, 3);
        x.run(12);
        count("tick 25", x, 1, 0);
        Check.due("tick 25: life", x.header(0, 2), 256 * 4 + 17);
        return x;
    }

    /** Leaf 2 has its links again at 25 and tells the spines at 26; the packet is at one at 28. */
    private static void aPacketWithItsLastLifeIsOpened() {
        OverlayNet x = round();
        x.link(4, true);
        x.link(5, true);
        x.run(3);
        Check.due("tick 28: life", x.header(0, 2), 256 + 17);
        Check.due("tick 28: target", x.header(0, 4), 2562);
        x.run(1);
        count("tick 29", x, 0, 0);
        Check.due("tick 29: learned", x.entry(2, 0, 0), 3);
        Check.due("tick 29: learned", x.entry(2, 0, 2), 29);
    }

    /** At 0 it is dropped, otherwise it is forwarded. */
    private static void aPacketWhoseLifeFallsToZeroIsDropped() {
        OverlayNet x = round();
        x.run(3);
        Check.due("tick 28: life", x.header(0, 2), 256 + 17);
        count("tick 28", x, 1, 0);
        x.run(1);
        count("tick 29", x, 0, 1);
        Check.refused("leaf 2 learned nothing", NoSuchElementException.class, () -> x.entry(2, 0, 0));
    }

    /** Packets hold a frame, with the version that its sender has then. */
    private static void theVersionIsTheOneThatTheSenderHasThen() {
        OverlayNet x = routed();
        x.machine(0, 0, 0);
        x.send(0, 1, 1);
        x.lose(3);
        x.move(0, 1);
        x.run(2);
        Check.due("from before the move: leaf", x.entry(3, 0, 0), 0);
        Check.due("from before the move: version", x.entry(3, 0, 1), 1);
        x.run(8);
        Check.due("from after the move: leaf", x.entry(3, 0, 0), 1);
        Check.due("from after the move: version", x.entry(3, 0, 1), 2);
    }

    /** The eight words together, where whatever is above 65535 is added at its lower end. */
    private static void theWordsOfAHeaderMakeSixteenOnes() {
        for (int tenant = 0; tenant <= 2; tenant++) {
            OverlayNet x = routed();
            x.machine(3, tenant, 0);
            x.send(0, 1, 1);
            for (int ticks = 0; ticks < 2; ticks++) {
                for (int k = 0; k < 3; k++) {
                    String when = "tenant " + tenant + ", packet " + k;
                    int sum = 0;
                    for (int w = 0; w < 8; w++) {
                        int word = x.header(k, w);
                        Check.due(when + ": word " + w + " has 16 bits", word >>> 16, 0);
                        sum += word;
                    }
                    Check.due(when + ": the words together", (sum & 65535) + (sum >>> 16), 65535);
                    Check.due(when + ": tenant", x.header(k, 6), tenant);
                }
                x.run(1);
            }
        }
    }
}
