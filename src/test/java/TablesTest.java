import java.util.NoSuchElementException;

/** Promises 3, 6, 15 and 16: moves, the directory, the leaves' tables, and what machines know. */
public final class TablesTest {
    public static void main(String[] args) {
        aLeafHasItsOwnMachines();
        theDirectorySpreads();
        theDirectoryCanBeUnreachable();
        entriesAreForgotten();
        ownEntriesAreKept();
        packetsTeach();
        aMoveTells();
        aMoveIsForItsTenant();
        olderVersionsTeachNothing();
        theDirectoryFollowsMoves();
        Check.end();
    }

    private static void entry(String when, OverlayNet x, int leaf, int machine, int... due) {
        for (int what = 0; what < 3; what++) {
            Check.due(when + ": entry(" + leaf + ", " + machine + ", " + what + ")",
                    x.entry(leaf, machine, what), due[what]);
        }
    }

    private static void nothing(String when, OverlayNet x, int leaf, int machine) {
        for (int what = 0; what < 3; what++) {
            int one = what;
            Check.refused(when + ": entry(" + leaf + ", " + machine + ", " + what + ")",
                    NoSuchElementException.class, () -> x.entry(leaf, machine, one));
        }
    }

    private static void unknown(String when, OverlayNet x, int machine, int address) {
        Check.refused(when + ": known(" + machine + ", " + address + ")",
                NoSuchElementException.class, () -> x.known(machine, address));
    }

    private static void aLeafHasItsOwnMachines() {
        OverlayNet x = new OverlayNet();
        x.run(4);
        x.machine(2, 1, 7);
        entry("made", x, 2, 0, 2, 1, 4);
        nothing("made", x, 0, 0);
        nothing("made", x, 1, 0);
        nothing("made", x, 3, 0);
    }

    private static void theDirectorySpreads() {
        OverlayNet x = new OverlayNet();
        x.machine(1, 0, 0);
        x.run(5);
        nothing("tick 5", x, 0, 0);
        x.run(1);
        entry("tick 6", x, 0, 0, 1, 1, 6);
        entry("tick 6", x, 2, 0, 1, 1, 6);
        entry("tick 6", x, 3, 0, 1, 1, 6);
        entry("tick 6", x, 1, 0, 1, 1, 0);
        x.machine(3, 0, 1);
        x.run(5);
        nothing("tick 11", x, 0, 1);
        entry("tick 11", x, 0, 0, 1, 1, 6);
        x.run(1);
        entry("tick 12", x, 0, 1, 3, 1, 12);
        entry("tick 12", x, 0, 0, 1, 1, 12);
        entry("tick 12", x, 3, 1, 3, 1, 6);
    }

    private static void theDirectoryCanBeUnreachable() {
        OverlayNet x = new OverlayNet();
        x.machine(1, 0, 0);
        Check.due("directory(true), first", x.directory(true), true);
        Check.due("directory(false)", x.directory(false), true);
        Check.due("directory(false) again", x.directory(false), false);
        x.run(11);
        nothing("unreachable", x, 0, 0);
        Check.due("directory(true)", x.directory(true), false);
        nothing("reachable, not yet", x, 0, 0);
        x.run(1);
        entry("reachable", x, 0, 0, 1, 1, 12);
    }

    private static void entriesAreForgotten() {
        OverlayNet x = new OverlayNet();
        x.machine(1, 0, 0);
        x.run(6);
        x.directory(false);
        x.run(59);
        entry("59 ticks ago", x, 0, 0, 1, 1, 6);
        x.run(1);
        nothing("60 ticks ago", x, 0, 0);
        nothing("60 ticks ago", x, 3, 0);
    }

    private static void ownEntriesAreKept() {
        OverlayNet x = new OverlayNet();
        x.machine(1, 0, 0);
        x.directory(false);
        x.run(60);
        x.run(60);
        entry("120 ticks ago", x, 1, 0, 1, 1, 0);
    }

    private static void packetsTeach() {
        OverlayNet x = new OverlayNet();
        x.machine(0, 0, 0);
        x.machine(2, 0, 3);
        x.directory(false);
        x.run(12);
        x.send(0, 3, 9);
        x.run(1);
        nothing("at the spine", x, 1, 0);
        x.run(1);
        entry("opened", x, 1, 0, 0, 1, 14);
        entry("opened", x, 2, 0, 0, 1, 14);
        entry("opened", x, 3, 0, 0, 1, 14);
        unknown("the answer is on its way", x, 0, 3);
        nothing("the answer is on its way", x, 0, 1);
        x.run(2);
        Check.due("answered: known(0, 3)", x.known(0, 3), 1);
        unknown("the answerer does not learn", x, 1, 0);
        entry("answered", x, 0, 1, 2, 1, 16);
        nothing("the answer goes to leaf 0 alone", x, 1, 1);
    }

    private static void aMoveTells() {
        OverlayNet x = new OverlayNet();
        x.machine(0, 0, 0);
        x.machine(1, 0, 1);
        x.machine(2, 0, 2);
        x.run(12);
        x.directory(false);
        x.move(0, 1);
        nothing("just moved, old leaf", x, 0, 0);
        entry("just moved, new leaf", x, 1, 0, 1, 2, 12);
        entry("just moved, another leaf", x, 2, 0, 0, 1, 12);
        Check.due("its new neighbour knows it", x.known(1, 0), 0);
        unknown("not yet told", x, 2, 0);
        unknown("itself", x, 0, 0);
        Check.due("moved: packets", x.packets(), 3);
        x.run(2);
        entry("told, old leaf", x, 0, 0, 1, 2, 14);
        entry("told, another leaf", x, 2, 0, 1, 2, 14);
        entry("told, a leaf without machines", x, 3, 0, 1, 2, 14);
        Check.due("told: known(2, 0)", x.known(2, 0), 0);
        x.move(0, 0);
        entry("moved back", x, 0, 0, 0, 3, 14);
        nothing("moved back", x, 1, 0);
    }

    private static void aMoveIsForItsTenant() {
        OverlayNet x = new OverlayNet();
        x.machine(0, 0, 0);
        x.machine(1, 1, 1);
        x.machine(2, 1, 2);
        x.run(12);
        x.move(0, 1);
        x.run(2);
        unknown("another tenant at the new leaf", x, 1, 0);
        unknown("another tenant at another leaf", x, 2, 0);
        entry("the leaf learns all the same", x, 2, 0, 1, 2, 14);
    }

    private static void olderVersionsTeachNothing() {
        OverlayNet x = new OverlayNet();
        x.machine(0, 0, 0);
        x.directory(false);
        x.run(12);
        x.send(0, 1, 1);
        x.move(0, 1);
        x.run(2);
        entry("a question from before the move arrives", x, 1, 0, 1, 2, 12);
        entry("the old leaf", x, 0, 0, 1, 2, 14);
        entry("another leaf", x, 2, 0, 1, 2, 14);
    }

    private static void theDirectoryFollowsMoves() {
        OverlayNet x = new OverlayNet();
        x.machine(0, 0, 0);
        x.run(12);
        x.lose(3);
        x.move(0, 2);
        x.run(5);
        entry("the answers were lost", x, 1, 0, 0, 1, 12);
        nothing("the answers were lost, old leaf", x, 0, 0);
        x.run(1);
        entry("the directory has told", x, 1, 0, 2, 2, 18);
        entry("the directory has told the old leaf", x, 0, 0, 2, 2, 18);
        entry("the directory does not tell of own machines", x, 2, 0, 2, 2, 12);
    }
}
