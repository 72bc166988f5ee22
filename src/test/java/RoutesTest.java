import java.util.NoSuchElementException;

/** Promises 1, 5, 9, 10 and 11: what is told, the distances and hops that follow, links. */
public final class RoutesTest {
    public static void main(String[] args) {
        nothingIsToldAtFirst();
        oneNodeAdvertisesInEachTick();
        aHopIsToldNoWay();
        aLinkThatIsDownTellsNothing();
        aLinkThatComesUpStartsAnew();
        aLeafWithoutLinksHasNoWay();
        distancesCountUpToNoWay();
        Check.end();
    }

    private static void distances(String when, OverlayNet x, int node, int... due) {
        for (int leaf = 0; leaf < 4; leaf++) {
            Check.due(when + ": distance(" + node + ", " + leaf + ")", x.distance(node, leaf), due[leaf]);
        }
    }

    private static void hops(String when, OverlayNet x, int node, int leaf, int... due) {
        for (int k = 0; k < due.length; k++) {
            Check.due(when + ": hop(" + node + ", " + leaf + ", " + k + ")", x.hop(node, leaf, k), due[k]);
        }
        noHop(when, x, node, leaf, due.length);
        noHop(when, x, node, leaf, -1);
    }

    private static void noHop(String when, OverlayNet x, int node, int leaf, int k) {
        Check.refused(when + ": hop(" + node + ", " + leaf + ", " + k + ")",
                NoSuchElementException.class, () -> x.hop(node, leaf, k));
    }

    private static void nothingIsToldAtFirst() {
        OverlayNet x = new OverlayNet();
        Check.due("new: now", x.now(), 0);
        Check.due("new: packets", x.packets(), 0);
        Check.due("new: dropped", x.dropped(), 0);
        distances("new", x, 0, 0, 16, 16, 16);
        distances("new", x, 3, 16, 16, 16, 0);
        distances("new", x, 4, 16, 16, 16, 16);
        distances("new", x, 5, 16, 16, 16, 16);
        hops("new", x, 0, 0);
        hops("new", x, 0, 1);
        hops("new", x, 4, 1);
        for (int link = 0; link < 8; link++) {
            int one = link;
            Check.refused("new: link(" + link + ", true)", IllegalStateException.class, () -> x.link(one, true));
        }
    }

    private static void oneNodeAdvertisesInEachTick() {
        OverlayNet x = new OverlayNet();
        x.run(1);
        Check.due("now after a tick", x.now(), 1);
        distances("tick 1", x, 4, 16, 1, 16, 16);
        distances("tick 1", x, 5, 16, 1, 16, 16);
        distances("tick 1", x, 0, 0, 16, 16, 16);
        hops("tick 1", x, 4, 1, 1);
        x.run(2);
        distances("tick 3", x, 4, 16, 1, 1, 1);
        distances("tick 3", x, 0, 0, 16, 16, 16);
        x.run(1);
        distances("tick 4", x, 0, 0, 2, 2, 2);
        distances("tick 4", x, 1, 16, 0, 2, 2);
        hops("tick 4", x, 0, 1, 4);
        x.run(1);
        hops("tick 5", x, 0, 1, 4, 5);
        distances("tick 5", x, 5, 16, 1, 1, 1);
        x.run(1);
        distances("tick 6", x, 5, 1, 1, 1, 1);
        distances("tick 6", x, 3, 16, 2, 2, 0);
        x.run(4);
        distances("tick 10", x, 3, 2, 2, 2, 0);
        hops("tick 10", x, 3, 0, 4);
        hops("tick 10", x, 3, 3);
        Check.due("now", x.now(), 10);
    }

    /** The leaves reach leaf 0 over both spines, so neither spine hears of a way over them. */
    private static void aHopIsToldNoWay() {
        OverlayNet x = new OverlayNet();
        x.run(12);
        x.link(0, false);
        distances("leaf 0 cut from 4", x, 4, 16, 1, 1, 1);
        distances("leaf 0 cut from 4", x, 0, 0, 2, 2, 2);
        hops("leaf 0 cut from 4", x, 0, 1, 5);
        hops("leaf 0 cut from 4", x, 1, 0, 4, 5);
        x.run(1);
        distances("1 has told 4 no way", x, 4, 16, 1, 1, 1);
    }

    private static void aLinkThatIsDownTellsNothing() {
        OverlayNet x = new OverlayNet();
        x.run(12);
        x.link(0, false);
        x.run(4);
        hops("4 has told 16", x, 1, 0, 5);
        distances("4 has told 16", x, 1, 2, 0, 2, 2);
        x.run(2);
        distances("0 can not tell 4", x, 4, 16, 1, 1, 1);
        hops("0 hears 5 alone", x, 0, 3, 5);
        x.run(1);
        distances("1 has told 4 its way", x, 4, 3, 1, 1, 1);
        hops("1 has told 4 its way", x, 4, 0, 1);
        x.run(2);
        hops("2 and 3 too", x, 4, 0, 1, 2, 3);
    }

    private static void aLinkThatComesUpStartsAnew() {
        OverlayNet x = new OverlayNet();
        x.run(12);
        x.link(0, false);
        x.run(9);
        x.link(0, true);
        distances("just up", x, 4, 3, 1, 1, 1);
        hops("just up", x, 0, 1, 5);
        x.run(1);
        hops("4 has told 0", x, 0, 1, 4, 5);
        x.run(2);
        distances("0 has told 4", x, 4, 1, 1, 1, 1);
        hops("0 has told 4", x, 4, 0, 0);
    }

    private static void aLeafWithoutLinksHasNoWay() {
        OverlayNet x = new OverlayNet();
        x.run(12);
        x.link(6, false);
        x.link(7, false);
        distances("leaf 3 alone", x, 3, 16, 16, 16, 0);
        hops("leaf 3 alone", x, 3, 0);
        x.run(24);
        distances("leaf 3 alone, told", x, 0, 0, 2, 2, 16);
        distances("leaf 3 alone, told", x, 5, 1, 1, 1, 16);
    }

    /** The ways to leaf 2 go round by 0, 4, 1 and 5 and grow until there is none. */
    private static void distancesCountUpToNoWay() {
        OverlayNet x = new OverlayNet();
        x.link(5, false);
        x.link(2, false);
        x.run(10);
        x.link(2, true);
        x.link(4, false);
        x.run(3);
        Check.due("round: distance(0, 2)", x.distance(0, 2), 2);
        Check.due("round: distance(4, 2)", x.distance(4, 2), 5);
        Check.due("round: distance(1, 2)", x.distance(1, 2), 4);
        Check.due("round: distance(5, 2)", x.distance(5, 2), 3);
        hops("round", x, 4, 2, 1);
        hops("round", x, 1, 2, 5);
        for (int tick = 0; tick < 60; tick++) {
            x.run(1);
            noHopsAtSixteen(x);
        }
        for (int node = 0; node < 6; node++) {
            Check.due("round, later: distance(" + node + ", 2)", x.distance(node, 2), node == 2 ? 0 : 16);
            hops("round, later", x, node, 2);
        }
    }

    private static void noHopsAtSixteen(OverlayNet x) {
        for (int node = 0; node < 6; node++) {
            if (x.distance(node, 2) == 16) {
                noHop("tick " + x.now(), x, node, 2, 0);
            }
        }
    }
}
