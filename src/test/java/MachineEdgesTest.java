import java.util.NoSuchElementException;

/** The sentences of "Machines", and of promises 2 to 4 and 16 to 19, that name an edge. */
public final class MachineEdgesTest {
    public static void main(String[] args) {
        aRowHasFourMessages();
        anEmptyRowIsNotTried();
        theFirstMessageIsTriedAtOnce();
        theNextTryIsEightTicksLater();
        aTryAtOnceCountsToo();
        aTryAtTimeZeroCountsToo();
        framesAreHandledInTheOrderOfSending();
        aMessageIsReceivedOnce();
        aReceiptTellsHowManyWereReceived();
        aReceiptForAnEmptyRow();
        aReceiptWhenTheFirstAddressIsNotKnown();
        aReceiptOfAnotherMachine();
        aReceiptWithAnotherNumber();
        aReceiptIsNoQuestion();
        withoutAnotherMessageItDoesNotTry();
        aQuestionForAnotherAddress();
        anAnswerForAnEmptyRow();
        anAnswerForTheSecondMessage();
        runCountsWhatIsReceivedInItsTicks();
        valuesAreKeptWhole();
        hundredMessagesInARow();
        Check.end();
    }

    /** Machine i of tenant 0 has address i and is at leaves[i]; the directory has told at 6 and 12. */
    private static OverlayNet told(int... leaves) {
        OverlayNet x = new OverlayNet();
        for (int i = 0; i < leaves.length; i++) {
            x.machine(leaves[i], 0, i);
        }
        x.run(12);
        x.directory(false);
        return x;
    }

    private static void count(String when, OverlayNet x, int packets, int dropped) {
        Check.due(when + ": packets", x.packets(), packets);
        Check.due(when + ": dropped", x.dropped(), dropped);
    }

    private static void unknown(String when, OverlayNet x, int machine, int address) {
        Check.refused(when + ": known(" + machine + ", " + address + ")",
                NoSuchElementException.class, () -> x.known(machine, address));
    }

    /** A machine has a row of at most 4 messages. */
    private static void aRowHasFourMessages() {
        OverlayNet x = told(0, 1);
        for (int i = 1; i <= 4; i++) {
            x.send(0, 1, i);
            Check.due("row", x.row(0), i);
        }
        Check.refused("a fifth message", IllegalStateException.class, () -> x.send(0, 1, 5));
        x.run(3);
        Check.refused("tick 15: a fifth message", IllegalStateException.class, () -> x.send(0, 1, 5));
        x.run(1);
        Check.due("tick 16: row", x.row(0), 3);
        x.send(0, 1, 6);
        Check.due("a fourth one again", x.row(0), 4);
        Check.refused("a fifth one again", IllegalStateException.class, () -> x.send(0, 1, 7));
        Check.due("all five", x.run(16), 4);
        Check.due("received", x.received(1, 0), 5);
        Check.due("the last one", x.value(1, 0), 6);
        Check.due("all have left the row", x.row(0), 0);
    }

    /** Each machine that has a message in its row tries. */
    private static void anEmptyRowIsNotTried() {
        OverlayNet x = told(0, 1);
        x.run(20);
        count("has not tried", x, 0, 0);
        x.send(0, 1, 1);
        x.run(4);
        Check.due("received and left", x.row(0), 0);
        x.run(20);
        count("has tried long ago", x, 0, 0);
    }

    /** When it is the first one, the machine tries. */
    private static void theFirstMessageIsTriedAtOnce() {
        OverlayNet x = told(0, 1);
        x.send(0, 1, 1);
        count("tried at 12", x, 1, 0);
        x.send(0, 1, 2);
        count("the second one is not tried", x, 1, 0);
        x.run(8);
        Check.due("tick 20: row", x.row(0), 0);
        count("tick 20", x, 0, 0);
        x.send(0, 1, 3);
        count("tried at 16 and 20", x, 1, 0);
    }

    /** .. has not tried, or 8 ticks ago or longer. */
    private static void theNextTryIsEightTicksLater() {
        OverlayNet x = told(0, 1);
        x.lose(3);
        x.send(0, 1, 1);
        count("tick 12", x, 0, 1);
        x.run(7);
        count("tick 19", x, 0, 1);
        x.run(1);
        count("tick 20", x, 0, 2);
        x.run(7);
        count("tick 27", x, 0, 2);
        x.run(1);
        count("tick 28", x, 0, 3);
        x.run(7);
        count("tick 35", x, 0, 3);
        x.run(1);
        count("tick 36", x, 1, 3);
    }

    /** The receipt at 16 makes it try its second message, so that the next try is at 24. */
    private static void aTryAtOnceCountsToo() {
        OverlayNet x = told(0, 1);
        x.send(0, 1, 1);
        x.send(0, 1, 2);
        x.run(3);
        x.lose(1);
        x.run(1);
        count("tick 16", x, 0, 1);
        x.run(7);
        count("tick 23", x, 0, 1);
        x.run(1);
        count("tick 24", x, 1, 1);
    }

    private static void aTryAtTimeZeroCountsToo() {
        OverlayNet x = new OverlayNet();
        x.machine(0, 0, 0);
        x.send(0, 1, 1);
        count("time 0", x, 0, 3);
        x.run(7);
        count("tick 7", x, 0, 3);
        x.run(1);
        count("tick 8", x, 3, 3);
    }

    /**
     * It is handled by its leaf, after all frames that were sent before. Machine 1 has two messages
     * for the machine that comes beside it, machine 2 has one, so that 2 is the first to go on.
     */
    private static void framesAreHandledInTheOrderOfSending() {
        OverlayNet x = told(0, 1, 1, 2);
        x.lose(2);
        x.send(1, 0, 10);
        x.send(2, 0, 20);
        x.send(1, 0, 11);
        x.send(1, 3, 12);
        x.send(2, 3, 21);
        count("both messages are lost", x, 0, 2);
        x.move(0, 1);
        Check.due("received of machine 1", x.received(0, 1), 2);
        Check.due("received of machine 2", x.received(0, 2), 1);
        count("three answers and two messages", x, 5, 2);
        Check.due("the answer is handled first", x.header(2, 5), 49152 + 41);
        Check.due("then machine 2 has its turn", x.header(3, 5), 49152 + 47);
        Check.due("then machine 1", x.header(4, 5), 49152 + 34);
    }

    /** When its number is 1 more than how many it has received; in any case it sends a receipt. */
    private static void aMessageIsReceivedOnce() {
        OverlayNet x = told(0, 1);
        x.send(0, 1, 1);
        x.run(1);
        x.lose(2);
        Check.due("tick 14", x.run(1), 1);
        count("the receipt is lost", x, 0, 1);
        x.run(6);
        count("tick 20: the message is lost", x, 0, 2);
        x.run(8);
        count("tick 28: sent again", x, 1, 2);
        Check.due("tick 30", x.run(2), 0);
        count("tick 30: a receipt all the same", x, 1, 2);
        Check.due("received once", x.received(1, 0), 1);
        x.run(2);
        Check.due("tick 32: row", x.row(0), 0);
    }

    /**
     * A receipt with how many it has received from it, whatever message it was given. The first
     * message, sent at 13, goes round by spine 4, leaf 1, spine 5 and leaf 3, for leaf 2 has no
     * links. Meanwhile machine 1 receives it beside its sender, then the second one at leaf 0, but
     * that receipt is dropped; back at leaf 2 it is given the first one again, at 23.
     */
    private static void aReceiptTellsHowManyWereReceived() {
        OverlayNet x = new OverlayNet();
        x.machine(3, 0, 0);
        x.machine(2, 0, 1);
        x.link(5, false);
        x.link(2, false);
        x.run(10);
        x.link(2, true);
        x.link(4, false);
        x.run(3);
        x.directory(false);
        x.send(0, 1, 70);
        count("the first message", x, 1, 0);
        x.lose(3);
        x.move(1, 3);
        Check.due("received beside its sender", x.received(1, 0), 1);
        Check.due("left the row", x.row(0), 0);
        x.lose(2);
        x.move(1, 0);
        x.run(2);
        Check.due("leaf 3 is told", x.entry(3, 1, 0), 0);
        x.send(0, 1, 71);
        Check.due("the second message", x.run(2), 1);
        count("the first message and a receipt", x, 2, 5);
        x.link(1, false);
        x.link(1, true);
        count("the receipt is dropped", x, 1, 6);
        x.move(1, 2);
        count("leaf 2 has no links", x, 1, 9);
        x.run(2);
        x.link(4, true);
        x.run(4);
        Check.due("tick 23: learned from the first message", x.entry(2, 0, 2), 23);
        Check.due("tick 23: received", x.received(1, 0), 2);
        x.run(1);
        Check.due("tick 24: row", x.row(0), 1);
        x.run(1);
        Check.due("tick 25: row", x.row(0), 0);
    }

    /**
     * Machine 1 goes away and comes back at 12; told so at 14, machine 0 sends its first message
     * again. So the receipt 1 comes at 16 and once more at 18.
     */
    private static OverlayNet receiptTwice() {
        OverlayNet x = told(0, 1, 3);
        x.send(0, 1, 1);
        x.move(1, 2);
        x.move(1, 1);
        Check.due("tick 15: received", x.run(3), 1);
        Check.due("tick 15: row", x.row(0), 1);
        return x;
    }

    private static void aReceiptForAnEmptyRow() {
        OverlayNet x = receiptTwice();
        x.run(1);
        Check.due("tick 16: row", x.row(0), 0);
        Check.due("tick 16: the second receipt is under way", x.packets(), 1);
        x.run(2);
        Check.due("tick 18: row", x.row(0), 0);
        count("tick 18", x, 0, 0);
        x.send(0, 1, 2);
        Check.due("the next message has number 2", x.run(2), 1);
        Check.due("the next message", x.value(1, 0), 2);
    }

    /** When the first message in its row is for an address that it knows .. */
    private static void aReceiptWhenTheFirstAddressIsNotKnown() {
        OverlayNet x = receiptTwice();
        x.send(0, 6, 2);
        x.run(1);
        Check.due("tick 16: row", x.row(0), 1);
        x.run(2);
        Check.due("tick 18: row", x.row(0), 1);
        unknown("tick 18", x, 0, 6);
    }

    /** .. that it knows as the receipt's sender .. */
    private static void aReceiptOfAnotherMachine() {
        OverlayNet x = receiptTwice();
        x.send(0, 2, 2);
        x.run(1);
        Check.due("tick 16: row", x.row(0), 1);
        Check.due("tick 18", x.run(2), 1);
        Check.due("tick 18: row", x.row(0), 1);
        x.run(2);
        Check.due("tick 20: row", x.row(0), 0);
        Check.due("received of another", x.value(2, 0), 2);
    }

    /** .. and has this number. */
    private static void aReceiptWithAnotherNumber() {
        OverlayNet x = receiptTwice();
        x.send(0, 1, 2);
        x.run(1);
        Check.due("tick 16: row", x.row(0), 1);
        Check.due("tick 18", x.run(2), 1);
        Check.due("tick 18: row", x.row(0), 1);
        x.run(2);
        Check.due("tick 20: row", x.row(0), 0);
        Check.due("received", x.received(1, 0), 2);
    }

    /** The receipt has the number 1, which is the address of the machine that is given it. */
    private static void aReceiptIsNoQuestion() {
        OverlayNet x = told(0, 1);
        x.send(1, 0, 7);
        x.run(4);
        Check.due("tick 16: row", x.row(1), 0);
        count("tick 16: no answer to it", x, 0, 0);
        unknown("tick 16", x, 0, 1);
    }

    /** If there is another one, the machine tries at once. */
    private static void withoutAnotherMessageItDoesNotTry() {
        OverlayNet x = told(0, 1);
        x.send(0, 1, 1);
        x.run(4);
        Check.due("tick 16: row", x.row(0), 0);
        count("no other one", x, 0, 0);
        OverlayNet y = told(0, 1);
        y.send(0, 1, 1);
        y.send(0, 1, 2);
        y.run(4);
        Check.due("tick 16: row", y.row(0), 1);
        count("another one", y, 1, 0);
    }

    /** A question for its own address: it sends the asker the answer. */
    private static void aQuestionForAnotherAddress() {
        for (int asked = 1; asked <= 3; asked++) {
            OverlayNet x = new OverlayNet();
            x.directory(false);
            x.run(12);
            x.machine(0, 0, 0);
            x.machine(1, 0, 1);
            x.machine(2, 1, 2);
            x.send(0, asked, 1);
            x.run(2);
            count("asked for " + asked, x, asked == 1 ? 1 : 0, 0);
            x.run(2);
            if (asked == 1) {
                Check.due("asked for 1: known", x.known(0, 1), 1);
            } else {
                unknown("asked for " + asked, x, 0, asked);
            }
        }
    }

    /** An answer: it knows this address then as that of this machine. */
    private static void anAnswerForAnEmptyRow() {
        OverlayNet x = told(0, 1);
        x.move(1, 2);
        unknown("tick 12", x, 0, 1);
        x.run(2);
        Check.due("tick 14: known", x.known(0, 1), 1);
        count("tick 14", x, 0, 0);
        x.send(0, 1, 1);
        x.run(4);
        Check.due("tick 18: the message has left the row", x.row(0), 0);
        x.move(1, 3);
        x.run(2);
        count("tick 20: told again of the address that it wrote to", x, 0, 0);
    }

    /** When that is the address of the first message in its row, it tries at once. */
    private static void anAnswerForTheSecondMessage() {
        OverlayNet x = told(0, 1);
        x.send(0, 6, 1);
        x.send(0, 1, 2);
        x.run(2);
        count("tick 14: nobody has the address", x, 0, 0);
        x.move(1, 2);
        x.run(2);
        Check.due("tick 16: known", x.known(0, 1), 1);
        count("tick 16: not tried", x, 0, 0);
        OverlayNet y = told(0, 1);
        y.lose(1);
        y.send(0, 1, 1);
        y.run(1);
        y.move(1, 2);
        count("tick 13: told to all", y, 3, 1);
        y.run(2);
        count("tick 15: tried again", y, 1, 1);
        Check.due("tick 15: where it has moved", y.header(0, 4), 2562);
    }

    /** Answers how many messages were received in them. */
    private static void runCountsWhatIsReceivedInItsTicks() {
        OverlayNet x = told(0, 1, 0);
        x.send(0, 2, 1);
        Check.due("received before any tick", x.received(2, 0), 1);
        x.send(0, 1, 2);
        x.send(1, 0, 3);
        Check.due("tick 13", x.run(1), 0);
        Check.due("tick 14", x.run(1), 2);
        Check.due("tick 15 to 74", x.run(60), 0);
    }

    private static void valuesAreKeptWhole() {
        OverlayNet x = told(0, 0);
        for (int value : new int[] {Integer.MIN_VALUE, -1, 0, Integer.MAX_VALUE}) {
            x.send(0, 1, value);
            Check.due("value", x.value(1, 0), value);
        }
        Check.due("received", x.received(1, 0), 4);
    }

    /** No place that an object uses again is left with what was there before. */
    private static void hundredMessagesInARow() {
        OverlayNet x = told(0, 0, 1);
        for (int i = 1; i <= 100; i++) {
            x.send(0, 1, 1000 + i);
            Check.due("beside each other: received", x.received(1, 0), i);
            Check.due("beside each other: value", x.value(1, 0), 1000 + i);
        }
        OverlayNet y = told(0, 1);
        for (int i = 1; i <= 100; i++) {
            y.send(0, 1, 2000 + i);
            Check.due("over links: received", y.run(4), 1);
            Check.due("over links: value", y.value(1, 0), 2000 + i);
        }
        Check.due("received", y.received(1, 0), 100);
        count("over links", y, 0, 0);
    }
}
