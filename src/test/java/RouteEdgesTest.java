import java.util.NoSuchElementException;

/** The sentences of "Routes", and of step 2 of a tick, that name an edge. */
public final class RouteEdgesTest {
    public static void main(String[] args) {
        eachLinkJoinsItsLeafAndItsSpine();
        aLinkThatGoesDownAndUpAtOnceHasToBeToldAnew();
        aLinkThatWasDownAtFirstHasToBeTold();
        aNodeIsAtDistanceZeroOfItselfWithoutLinks();
        fifteenIsAWayAndSixteenIsNone();
        whoHasToldSixteenIsNoHop();
        aFartherNeighbourIsNoHop();
        onlyAHopIsToldSixteen();
        nodeZeroAdvertisesAtEachSixthTick();
        Check.end();
    }

    private static void hops(String when, OverlayNet x, int node, int leaf, int... due) {
        for (int k = 0; k < due.length; k++) {
            Check.due(when + ": hop(" + node + ", " + leaf + ", " + k + ")", x.hop(node, leaf, k), due[k]);
        }
        Check.refused(when + ": hop(" + node + ", " + leaf + ", " + due.length + ")",
                NoSuchElementException.class, () -> x.hop(node, leaf, due.length));
    }

    private static void distance(String when, OverlayNet x, int node, int leaf, int due) {
        Check.due(when + ": distance(" + node + ", " + leaf + ")", x.distance(node, leaf), due);
    }

    private static OverlayNet routed() {
        OverlayNet x = new OverlayNet();
        x.run(12);
        return x;
    }

    /** LINK 2 l + s joins leaf l and spine 4 + s. */
    private static void eachLinkJoinsItsLeafAndItsSpine() {
        for (int link = 0; link < 8; link++) {
            int cutLeaf = link / 2;
            int cutSpine = link % 2 == 0 ? 4 : 5;
            int otherSpine = link % 2 == 0 ? 5 : 4;
            OverlayNet x = routed();
            x.link(link, false);
            String when = "link " + link + " is down";
            for (int leaf = 0; leaf < 4; leaf++) {
                distance(when, x, cutSpine, leaf, leaf == cutLeaf ? 16 : 1);
                distance(when, x, otherSpine, leaf, 1);
                int target = (leaf + 1) % 4;
                if (leaf == cutLeaf) {
                    hops(when, x, leaf, target, otherSpine);
                } else {
                    hops(when, x, leaf, target, 4, 5);
                }
            }
        }
    }

    /** 16 at first, and again whenever the link to it goes up or down. */
    private static void aLinkThatGoesDownAndUpAtOnceHasToBeToldAnew() {
        OverlayNet x = routed();
        x.link(0, false);
        x.link(0, true);
        distance("down and up", x, 4, 0, 16);
        hops("down and up", x, 4, 0);
        hops("down and up", x, 0, 1, 5);
        hops("down and up", x, 0, 3, 5);
        hops("the other end of no link", x, 1, 0, 4, 5);
        x.run(3);
        hops("tick 15", x, 0, 1, 5);
        x.run(1);
        hops("tick 16: spine 4 has told", x, 0, 1, 4, 5);
        x.run(1);
        distance("tick 17", x, 4, 0, 16);
        x.run(1);
        distance("tick 18: leaf 0 has told", x, 4, 0, 1);
    }

    private static void aLinkThatWasDownAtFirstHasToBeTold() {
        OverlayNet x = new OverlayNet();
        x.link(2, false);
        x.run(1);
        distance("leaf 1 tells over link 3 alone", x, 4, 1, 16);
        distance("leaf 1 tells over link 3 alone", x, 5, 1, 1);
        x.link(2, true);
        distance("up", x, 4, 1, 16);
        x.run(4);
        distance("tick 5", x, 4, 1, 16);
        x.run(1);
        distance("tick 6: leaf 0 has told its way over spine 5", x, 4, 1, 3);
        hops("tick 6", x, 4, 1, 0);
        x.run(1);
        distance("tick 7: leaf 1 has told", x, 4, 1, 1);
        hops("tick 7", x, 4, 1, 1);
    }

    /** The distance of a node to leaf l is 0 for l itself. */
    private static void aNodeIsAtDistanceZeroOfItselfWithoutLinks() {
        OverlayNet x = routed();
        for (int link = 0; link < 8; link++) {
            x.link(link, false);
        }
        for (int node = 0; node < 6; node++) {
            for (int leaf = 0; leaf < 4; leaf++) {
                distance("no links", x, node, leaf, node == leaf ? 0 : 16);
                hops("no links", x, node, leaf);
            }
        }
    }

    /** Leaf 2 is alone from 10 on, while 4 still has a way to it over 1, 1 over 5, and 5 over 0 and 3. */
    private static OverlayNet round() {
        OverlayNet x = new OverlayNet();
        x.link(5, false);
        x.link(2, false);
        x.run(10);
        x.link(2, true);
        x.link(4, false);
        return x;
    }

    /** 1 more than the least that neighbours have told, but 16 at most; 16 means no way. */
    private static void fifteenIsAWayAndSixteenIsNone() {
        OverlayNet x = round();
        x.run(35);
        distance("tick 45", x, 0, 2, 14);
        distance("tick 45: leaves 0 and 3 have told 14", x, 5, 2, 15);
        hops("tick 45", x, 5, 2, 0, 3);
        x.run(1);
        distance("tick 46: spine 5 has told 11 before", x, 1, 2, 12);
        hops("tick 46", x, 1, 2, 5);
        x.run(1);
        distance("tick 47: spine 5 has told 15", x, 1, 2, 16);
        hops("tick 47", x, 1, 2);
        x.run(1);
        distance("tick 48: leaf 1 has told 12 before", x, 4, 2, 13);
        x.run(1);
        distance("tick 49: leaf 1 has told 16", x, 4, 2, 16);
        hops("tick 49", x, 4, 2);
    }

    /** Its hops are those which have told one less than the distance, when that is not 0 or 16. */
    private static void whoHasToldSixteenIsNoHop() {
        OverlayNet x = round();
        x.run(60);
        for (int node = 0; node < 6; node++) {
            distance("nobody has a way", x, node, 2, node == 2 ? 0 : 16);
            hops("nobody has a way", x, node, 2);
        }
        hops("the other ways are there", x, 0, 3, 4, 5);
    }

    /** Spine 5 has told leaf 1 a way of 3 to leaf 2, and spine 4 one of 1. */
    private static void aFartherNeighbourIsNoHop() {
        OverlayNet x = new OverlayNet();
        x.link(5, false);
        x.link(2, false);
        x.run(12);
        distance("over spine 5 alone", x, 1, 2, 4);
        hops("over spine 5 alone", x, 1, 2, 5);
        x.link(2, true);
        x.run(4);
        distance("spine 4 has told 1, spine 5 has told 3", x, 1, 2, 2);
        hops("spine 4 has told 1, spine 5 has told 3", x, 1, 2, 4);
    }

    /** A node tells its distance; 16 when this neighbour is one of its hops to that leaf. */
    private static void onlyAHopIsToldSixteen() {
        OverlayNet x = new OverlayNet();
        x.link(5, false);
        x.run(6);
        hops("leaf 0 to leaf 2", x, 0, 2, 4);
        distance("leaf 0 has told spine 5 its way over spine 4", x, 5, 2, 3);
        hops("leaf 0 has told spine 5 its way over spine 4", x, 5, 2, 0);
        x.link(4, false);
        distance("spine 4 has heard 16 of all others", x, 4, 2, 16);
        x.run(1);
        distance("leaf 1 has told spine 4 16 again", x, 4, 2, 16);
        hops("leaf 1 has told spine 5 its way over spine 4", x, 5, 2, 0, 1);
    }

    /** The node whose number is NOW modulo 6 advertises. */
    private static void nodeZeroAdvertisesAtEachSixthTick() {
        OverlayNet x = new OverlayNet();
        x.run(5);
        distance("tick 5", x, 4, 0, 16);
        distance("tick 5", x, 5, 0, 16);
        x.run(1);
        distance("tick 6", x, 4, 0, 1);
        distance("tick 6", x, 5, 0, 1);
        x.link(0, false);
        x.link(0, true);
        x.run(5);
        distance("tick 11", x, 4, 0, 16);
        x.run(1);
        distance("tick 12", x, 4, 0, 1);
    }
}
