import java.util.List;
import java.util.NoSuchElementException;

/**
 * Objects as a whole: a new one, one that is used to its last call, and several side by side, which
 * do not touch one another and give the same answers to the same calls.
 */
public final class ObjectsTest {
    private static final int CALLS = 512;
    private static final int STEPS = 60;

    public static void main(String[] args) {
        aNewObjectHasNothing();
        sameCallsHaveSameAnswers();
        objectsAreApart();
        anObjectThatRunsToItsLastCall();
        anObjectThatIsBusyToItsLastCall();
        aMachineThatMovesToTheLastCall();
        aMachineThatSendsToTheLastCall();
        Check.end();
    }

    private static void same(String when, OverlayNet got, OverlayNet due, Look look) {
        List<String> seen = look.at(got);
        List<String> want = look.at(due);
        Check.due(when + ": how many answers", seen.size(), want.size());
        for (int i = 0; i < Math.min(seen.size(), want.size()); i++) {
            Check.due(when + ": a look", seen.get(i), want.get(i));
        }
    }

    /** Promise 1: no machines, nothing told, nothing in the tables. */
    private static void aNewObjectHasNothing() {
        for (String seen : Look.MACHINES.at(new OverlayNet())) {
            Check.due("new: " + seen, seen.endsWith(" throws IllegalArgumentException"), true);
        }
        OverlayNet x = new OverlayNet();
        for (int i = 0; i < 24; i++) {
            int node = i / 4;
            int leaf = i % 4;
            String way = "(" + node + ", " + leaf + ")";
            Check.due("new: distance" + way, x.distance(node, leaf), node == leaf ? 0 : 16);
            Check.refused("new: a hop of " + way, NoSuchElementException.class, () -> x.hop(node, leaf, 0));
        }
        Check.due("new: now", x.now(), 0);
        Check.due("new: packets", x.packets(), 0);
        Check.due("new: dropped", x.dropped(), 0);
        Check.due("new: none are to be lost", x.lose(0), 0);
        Check.due("new: the directory is reachable", x.directory(true), true);
        Check.due("new: the first machine", x.machine(3, 2, 7), 0);
    }

    /** Makes 8 machines; then those with even numbers move and the others write to them. */
    private static void step(OverlayNet x, int i) {
        int machine = i % 8;
        int round = i / 8;
        if (round == 0) {
            x.machine(machine % 4, machine / 4, machine);
        } else if (machine % 2 == 0) {
            x.move(machine, (machine + round) % 4);
        } else if (x.row(machine) < 4) {
            x.send(machine, machine - 1, i);
        }
        x.run(1 + i % 2);
    }

    private static void steps(OverlayNet x) {
        for (int i = 0; i < STEPS; i++) {
            step(x, i);
        }
    }

    private static void sameCallsHaveSameAnswers() {
        for (Look look : Look.values()) {
            OverlayNet x = new OverlayNet();
            OverlayNet y = new OverlayNet();
            steps(x);
            steps(y);
            same("the same calls", x, y, look);
        }
    }

    private static void objectsAreApart() {
        for (Look look : Look.values()) {
            OverlayNet alone = new OverlayNet();
            steps(alone);
            OverlayNet x = new OverlayNet();
            OverlayNet beside = new OverlayNet();
            beside.run(5);
            beside.directory(false);
            beside.lose(9);
            for (int i = 0; i < STEPS; i++) {
                step(beside, i);
                step(x, i);
                beside.link(i % 8, i / 8 % 2 == 1);
            }
            same("beside another", x, alone, look);
        }
    }

    /** NOW is 60 times 509 then; the directory has told in the last tick. */
    private static void anObjectThatRunsToItsLastCall() {
        OverlayNet x = new OverlayNet();
        x.machine(2, 0, 0);
        for (int i = 0; i < CALLS - 3; i++) {
            x.run(60);
        }
        Check.due("now", x.now(), 60 * (CALLS - 3));
        Check.due("told in the last tick", x.entry(0, 0, 2), 60 * (CALLS - 3));
    }

    /** Six full rows for addresses that nobody has: in each tick questions are asked and forwarded. */
    private static void anObjectThatIsBusyToItsLastCall() {
        OverlayNet x = new OverlayNet();
        for (int i = 0; i < 6; i++) {
            x.machine(i % 4, 0, i);
        }
        x.run(12);
        for (int i = 0; i < 24; i++) {
            x.send(i % 6, 6 + i % 2, i);
            if (i < 6) {
                x.run(1);
            }
        }
        Check.due("nothing is dropped", x.dropped(), 0);
        for (int i = 0; i < CALLS - 41; i++) {
            Check.due("received", x.run(60), 0);
        }
        Check.due("now", x.now(), 18 + 60 * (CALLS - 41));
        Check.due("rows", x.row(0) + x.row(5), 8);
    }

    private static void aMachineThatMovesToTheLastCall() {
        OverlayNet x = new OverlayNet();
        x.machine(0, 0, 0);
        for (int i = 1; i <= CALLS - 3; i++) {
            x.move(0, i % 4);
        }
        Check.due("its version", x.entry((CALLS - 3) % 4, 0, 1), CALLS - 2);
        Check.due("three packets at each move, without a way", x.dropped(), 3 * (CALLS - 3));
    }

    private static void aMachineThatSendsToTheLastCall() {
        OverlayNet x = new OverlayNet();
        x.machine(1, 0, 0);
        x.machine(1, 0, 1);
        for (int i = 0; i < CALLS - 4; i++) {
            x.send(i % 2, 1 - i % 2, i);
        }
        Check.due("received", x.received(1, 0), (CALLS - 4) / 2);
        Check.due("the last value", x.value(0, 1), CALLS - 5);
    }
}
