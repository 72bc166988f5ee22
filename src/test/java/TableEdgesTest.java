import java.util.NoSuchElementException;

/** The sentences of "Tables", of sending and opening frames, and of the directory that name an edge. */
public final class TableEdgesTest {
    public static void main(String[] args) {
        aGreaterVersionIsKept();
        anEqualVersionIsConfirmedAnew();
        aLesserVersionIsReplaced();
        whereThereIsNothingAnOldVersionIsLearned();
        ownMachinesAreThereAtOnce();
        theOldLeafHasNoEntryAnyMore();
        sixtyTicksAfterTheLatestConfirmation();
        confirmedInTheTickInWhichItIsDue();
        whatAPacketTaughtIsForgottenToo();
        ownMachinesAreNeverForgotten();
        aQuestionIsAnsweredWhileThereIsAnEntry();
        aQuestionIsAnsweredForTheTenantAlone();
        aFrameForAMachineHereLeavesTheLeafNot();
        aFrameGoesWhereTheTableNamesAnotherLeaf();
        aFrameGoesToAllLeavesWithoutAnEntry();
        aReceiverThatIsNotThereIsGivenNothing();
        aFrameForAllIsNotGivenToItsSender();
        aFrameForAllIsGivenInOrder();
        theDirectoryTellsAtMultiplesOfSix();
        theDirectoryTellsNothingWhenItIsUnreachable();
        theDirectoryTellsNothingAboutOwnMachines();
        theDirectoryTakesAGreaterVersion();
        Check.end();
    }

    private static void entry(String when, OverlayNet x, int leaf, int machine, int... due) {
        for (int what = 0; what < 3; what++) {
            Check.due(when + ": entry(" + leaf + ", " + machine + ", " + what + ")",
                    x.entry(leaf, machine, what), due[what]);
        }
    }

    private static void nothing(String when, OverlayNet x, int leaf, int machine) {
        Check.refused(when + ": entry(" + leaf + ", " + machine + ", 0)",
                NoSuchElementException.class, () -> x.entry(leaf, machine, 0));
    }

    private static void unknown(String when, OverlayNet x, int machine, int address) {
        Check.refused(when + ": known(" + machine + ", " + address + ")",
                NoSuchElementException.class, () -> x.known(machine, address));
    }

    /** Machine i of tenant 0 has address i and is at leaves[i]; the directory has told at 6 and 12. */
    private static OverlayNet told(int... leaves) {
        OverlayNet x = new OverlayNet();
        for (int i = 0; i < leaves.length; i++) {
            x.machine(leaves[i], 0, i);
        }
        x.run(12);
        x.directory(false);
        return x;
    }

    /** The same, but that the directory has told nothing. */
    private static OverlayNet untold(int... leaves) {
        OverlayNet x = new OverlayNet();
        x.directory(false);
        x.run(12);
        for (int i = 0; i < leaves.length; i++) {
            x.machine(leaves[i], 0, i);
        }
        return x;
    }

    /** At 18 the directory tells of the move; a packet from before it arrives at 19. */
    private static void aGreaterVersionIsKept() {
        OverlayNet x = told(0);
        x.directory(true);
        x.run(5);
        x.send(0, 1, 1);
        x.lose(3);
        x.move(0, 1);
        x.run(1);
        entry("told of version 2", x, 2, 0, 1, 2, 18);
        x.run(1);
        entry("version 1 arrives", x, 2, 0, 1, 2, 18);
        entry("version 1 arrives", x, 3, 0, 1, 2, 18);
        entry("version 1 arrives at its own leaf", x, 1, 0, 1, 2, 17);
    }

    private static void anEqualVersionIsConfirmedAnew() {
        OverlayNet x = untold(0);
        x.send(0, 1, 1);
        x.run(9);
        entry("asked at 12", x, 2, 0, 0, 1, 14);
        x.run(1);
        entry("asked at 20", x, 2, 0, 0, 1, 22);
    }

    private static void aLesserVersionIsReplaced() {
        OverlayNet x = told(0);
        x.move(0, 1);
        x.run(1);
        entry("version 1", x, 2, 0, 0, 1, 12);
        x.run(1);
        entry("version 2 arrives", x, 2, 0, 1, 2, 14);
    }

    /** Leaf 0 had the machine with version 2, but has nothing when a packet with version 1 arrives. */
    private static void whereThereIsNothingAnOldVersionIsLearned() {
        OverlayNet x = untold(1);
        x.send(0, 5, 1);
        x.lose(6);
        x.move(0, 0);
        x.move(0, 2);
        nothing("moved on", x, 0, 0);
        x.run(2);
        entry("version 1 arrives", x, 0, 0, 1, 1, 14);
        entry("version 1 arrives", x, 3, 0, 1, 1, 14);
        entry("version 1 arrives at its own leaf", x, 2, 0, 2, 3, 12);
    }

    private static void ownMachinesAreThereAtOnce() {
        OverlayNet x = untold(3);
        entry("made", x, 3, 0, 3, 1, 12);
        x.run(1);
        x.move(0, 0);
        entry("moved", x, 0, 0, 0, 2, 13);
    }

    private static void theOldLeafHasNoEntryAnyMore() {
        OverlayNet x = told(3);
        x.move(0, 0);
        nothing("moved", x, 3, 0);
        x.lose(3);
        x.move(0, 3);
        nothing("moved back", x, 0, 0);
        entry("moved back", x, 3, 0, 3, 3, 12);
    }

    /** Forgotten in the tick in which it was confirmed 60 ticks ago. */
    private static void sixtyTicksAfterTheLatestConfirmation() {
        OverlayNet x = told(1);
        x.run(54);
        entry("tick 66, told at 6 and 12", x, 0, 0, 1, 1, 12);
        x.run(5);
        entry("tick 71", x, 0, 0, 1, 1, 12);
        entry("tick 71", x, 2, 0, 1, 1, 12);
        entry("tick 71", x, 3, 0, 1, 1, 12);
        x.run(1);
        nothing("tick 72", x, 0, 0);
        nothing("tick 72", x, 2, 0);
        nothing("tick 72", x, 3, 0);
    }

    private static void confirmedInTheTickInWhichItIsDue() {
        OverlayNet x = told(1);
        x.run(59);
        x.directory(true);
        x.run(1);
        entry("told at 72", x, 0, 0, 1, 1, 72);

        OverlayNet y = untold(0);
        y.move(0, 2);
        y.run(60);
        entry("tick 72", y, 3, 0, 2, 2, 14);
        y.send(0, 6, 1);
        y.run(2);
        entry("a packet of the same version at 74", y, 3, 0, 2, 2, 74);
    }

    private static void whatAPacketTaughtIsForgottenToo() {
        OverlayNet x = untold(0);
        x.send(0, 1, 1);
        x.run(2);
        x.link(0, false);
        x.link(1, false);
        x.run(59);
        entry("tick 73", x, 1, 0, 0, 1, 14);
        x.run(1);
        nothing("tick 74", x, 1, 0);
    }

    private static void ownMachinesAreNeverForgotten() {
        OverlayNet x = untold(0, 1);
        x.move(0, 3);
        x.run(60);
        x.run(60);
        entry("moved there 120 ticks ago", x, 3, 0, 3, 2, 12);
        entry("made there 120 ticks ago", x, 1, 1, 1, 1, 12);
        nothing("another leaf", x, 2, 0);
    }

    /** When the leaf's table has an entry for the machine, the sender is given the answer at once. */
    private static void aQuestionIsAnsweredWhileThereIsAnEntry() {
        OverlayNet x = told(0, 1);
        x.run(59);
        x.send(0, 1, 7);
        Check.due("tick 71: known", x.known(0, 1), 1);
        Check.due("tick 71: one message", x.packets(), 1);
        Check.due("tick 71: its port", x.header(0, 5), 49152 + 7);

        OverlayNet y = told(0, 1);
        y.run(60);
        y.send(0, 1, 7);
        unknown("tick 72", y, 0, 1);
        Check.due("tick 72: three questions", y.packets(), 3);
        Check.due("tick 72: their port", y.header(0, 5), 49152 + 41);
    }

    /** .. an entry for the machine of the sender's tenant with that address. */
    private static void aQuestionIsAnsweredForTheTenantAlone() {
        OverlayNet x = new OverlayNet();
        x.machine(0, 0, 0);
        x.machine(0, 1, 1);
        x.machine(1, 2, 1);
        x.run(12);
        x.send(0, 1, 7);
        unknown("two others have the address", x, 0, 1);
        Check.due("three questions", x.packets(), 3);
        Check.due("a fourth machine", x.machine(0, 0, 1), 3);
        x.run(8);
        Check.due("tick 20: known", x.known(0, 1), 3);
        Check.due("tick 20: received", x.received(3, 0), 1);
        Check.due("the others received nothing", x.received(1, 0) + x.received(2, 0), 0);
    }

    private static void aFrameForAMachineHereLeavesTheLeafNot() {
        OverlayNet x = untold(2, 2);
        x.send(0, 1, 7);
        Check.due("here: received", x.received(1, 0), 1);
        Check.due("here: row", x.row(0), 0);
        Check.due("here: packets", x.packets(), 0);
    }

    /** The table names leaf 1, though the machine is at leaf 3 by now. */
    private static void aFrameGoesWhereTheTableNamesAnotherLeaf() {
        OverlayNet x = told(0, 1);
        x.lose(3);
        x.move(1, 3);
        x.send(0, 1, 7);
        Check.due("one packet", x.packets(), 1);
        Check.due("to leaf 1", x.header(0, 4), 2561);
        Check.due("nobody is there", x.run(2), 0);
        Check.due("no receipt", x.packets(), 0);
        Check.due("the message is in the row", x.row(0), 1);
    }

    /** Machine 1 moves away from beside machine 0; the leaf has nothing about it then. */
    private static void aFrameGoesToAllLeavesWithoutAnEntry() {
        OverlayNet x = untold(0, 0);
        x.send(0, 1, 7);
        x.lose(3);
        x.move(1, 3);
        x.send(0, 1, 8);
        Check.due("three packets", x.packets(), 3);
        for (int k = 0; k < 3; k++) {
            Check.due("packet " + k + " goes to", x.header(k, 4), 2561 + k);
            Check.due("packet " + k + " is a message", x.header(k, 5), 49152 + 7);
        }
        Check.due("received at leaf 3", x.run(2), 1);
        Check.due("received", x.value(1, 0), 8);
    }

    /** The leaf learns; the frame is given to the receiver, if that is at this leaf. */
    private static void aReceiverThatIsNotThereIsGivenNothing() {
        OverlayNet x = told(0, 1);
        x.send(0, 1, 7);
        x.lose(3);
        x.move(1, 2);
        Check.due("received", x.run(2), 0);
        Check.due("received(1, 0)", x.received(1, 0), 0);
        Check.due("no receipt", x.packets(), 0);
        entry("the leaf learns all the same", x, 1, 0, 0, 1, 14);
    }

    /** .. to all machines of the tenant at this leaf but its sender, which has come there meanwhile. */
    private static void aFrameForAllIsNotGivenToItsSender() {
        OverlayNet x = untold(0, 2, 3);
        x.move(0, 1);
        x.move(0, 2);
        Check.due("its new neighbour", x.known(1, 0), 0);
        x.run(2);
        Check.due("another leaf", x.known(2, 0), 0);
        unknown("it does not tell itself", x, 0, 0);
    }

    /** Machines 1 and 2 try when they are given the answer for all: first 1, then 2. */
    private static void aFrameForAllIsGivenInOrder() {
        OverlayNet x = untold(0, 1, 1);
        x.lose(6);
        x.send(2, 0, 20);
        x.send(1, 0, 10);
        Check.due("both questions are lost", x.dropped(), 6);
        x.move(0, 3);
        for (int k = 0; k < 3; k++) {
            Check.due("packet " + k + " goes to", x.header(k, 4), 2560 + k);
        }
        x.run(2);
        Check.due("two messages", x.packets(), 2);
        Check.due("the first one is of machine 1", x.header(0, 5), 49152 + 13);
        Check.due("the second one is of machine 2", x.header(1, 5), 49152 + 26);

        OverlayNet y = untold(0, 1, 1);
        y.lose(6);
        y.send(2, 0, 20);
        y.send(1, 0, 10);
        y.move(0, 1);
        Check.due("moved beside them", y.value(0, 1) + y.value(0, 2), 30);
    }

    /** When NOW is a multiple of 6: 0 is no tick. */
    private static void theDirectoryTellsAtMultiplesOfSix() {
        OverlayNet x = new OverlayNet();
        x.machine(0, 0, 0);
        nothing("NOW is 0", x, 1, 0);
        x.run(5);
        nothing("tick 5", x, 1, 0);
        x.run(1);
        entry("tick 6", x, 1, 0, 0, 1, 6);
        x.machine(0, 0, 1);
        nothing("made at 6, told already", x, 1, 1);
        x.run(5);
        nothing("tick 11", x, 1, 1);
        entry("tick 11", x, 1, 0, 0, 1, 6);
        x.run(1);
        entry("tick 12", x, 1, 1, 0, 1, 12);
        entry("tick 12", x, 1, 0, 0, 1, 12);
    }

    private static void theDirectoryTellsNothingWhenItIsUnreachable() {
        OverlayNet x = told(0);
        x.lose(3);
        x.move(0, 1);
        x.run(6);
        entry("tick 18", x, 2, 0, 0, 1, 12);
        nothing("tick 18", x, 0, 0);
        x.run(5);
        x.directory(true);
        entry("tick 23, reachable", x, 2, 0, 0, 1, 12);
        x.run(1);
        entry("tick 24", x, 2, 0, 1, 2, 24);
        entry("tick 24", x, 0, 0, 1, 2, 24);
    }

    private static void theDirectoryTellsNothingAboutOwnMachines() {
        OverlayNet x = told(0, 3);
        x.directory(true);
        x.move(1, 0);
        x.run(6);
        entry("made there", x, 0, 0, 0, 1, 0);
        entry("moved there", x, 0, 1, 0, 2, 12);
        entry("moved from there", x, 3, 1, 0, 2, 18);
    }

    /** Unless the directory has a greater version: it has a smaller one, or the same. */
    private static void theDirectoryTakesAGreaterVersion() {
        OverlayNet x = told(0);
        x.directory(true);
        x.lose(6);
        x.move(0, 3);
        x.move(0, 2);
        x.run(6);
        entry("version 3", x, 1, 0, 2, 3, 18);
        x.run(6);
        entry("version 3 again", x, 1, 0, 2, 3, 24);
    }
}
