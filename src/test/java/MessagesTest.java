import java.util.NoSuchElementException;

/** Promises 2, 4, 8, 17, 18 and 19: machines, their rows, and what they receive. */
public final class MessagesTest {
    public static void main(String[] args) {
        machinesAreNumbered();
        neighboursAtOnce();
        aQuestionAnsweredByTheTable();
        aQuestionAnsweredByTheMachine();
        triesAreEightTicksApart();
        anAnswerMakesItTry();
        aRowIsSentInOrder();
        numbersCountForEachReceiver();
        aLostReceipt();
        aReceiptThatComesTwice();
        anAnswerForAnotherAddress();
        framesAreHandledBeforeTheNextArrival();
        framesAreHandledBeforeTheNextTurn();
        anUnknownAddressHoldsTheRow();
        tenantsAreApart();
        aMoveInBetween();
        anUnknownPlaceIsFlooded();
        Check.end();
    }

    private static void noValue(String when, OverlayNet x, int machine, int from) {
        Check.due(when + ": received(" + machine + ", " + from + ")", x.received(machine, from), 0);
        Check.refused(when + ": value(" + machine + ", " + from + ")",
                NoSuchElementException.class, () -> x.value(machine, from));
    }

    private static void received(String when, OverlayNet x, int machine, int from, int count, int value) {
        Check.due(when + ": received(" + machine + ", " + from + ")", x.received(machine, from), count);
        Check.due(when + ": value(" + machine + ", " + from + ")", x.value(machine, from), value);
    }

    /** Machine 0 at leaf 0 with address 0 and machine 1 at leaf 1 with address 1, all told. */
    private static OverlayNet pair() {
        OverlayNet x = new OverlayNet();
        x.machine(0, 0, 0);
        x.machine(1, 0, 1);
        x.run(12);
        return x;
    }

    private static void machinesAreNumbered() {
        OverlayNet x = new OverlayNet();
        for (int i = 0; i < 8; i++) {
            Check.due("machine " + i, x.machine(i % 4, i % 3, i), i);
            Check.due("row(" + i + ")", x.row(i), 0);
        }
        Check.refused("a ninth machine", IllegalStateException.class, () -> x.machine(0, 1, 0));
        Check.refused("a ninth machine at no leaf", IllegalArgumentException.class, () -> x.machine(4, 1, 0));
        noValue("itself", x, 3, 3);
        noValue("nothing was sent", x, 3, 4);
    }

    private static void neighboursAtOnce() {
        OverlayNet x = new OverlayNet();
        x.machine(2, 0, 0);
        x.machine(2, 0, 5);
        x.send(0, 5, 40);
        received("neighbours", x, 1, 0, 1, 40);
        Check.due("neighbours: row", x.row(0), 0);
        Check.due("neighbours: known", x.known(0, 5), 1);
        Check.due("neighbours: packets", x.packets(), 0);
        Check.due("neighbours: dropped", x.dropped(), 0);
        x.send(0, 5, Integer.MIN_VALUE);
        received("neighbours", x, 1, 0, 2, Integer.MIN_VALUE);
        noValue("neighbours, the other way", x, 0, 1);
        Check.due("run counts what is received in it alone", x.run(8), 0);
    }

    private static void aQuestionAnsweredByTheTable() {
        OverlayNet x = pair();
        x.send(0, 1, 7);
        Check.due("on the spot: known", x.known(0, 1), 1);
        Check.due("on the spot: the message is on a link", x.packets(), 1);
        Check.due("on the spot: tick 13", x.run(1), 0);
        noValue("tick 13", x, 1, 0);
        Check.due("on the spot: tick 14", x.run(1), 1);
        received("tick 14", x, 1, 0, 1, 7);
        Check.due("tick 14: row", x.row(0), 1);
        Check.due("tick 15 and 16", x.run(2), 0);
        Check.due("tick 16: row", x.row(0), 0);
        Check.due("tick 16: packets", x.packets(), 0);
    }

    private static void aQuestionAnsweredByTheMachine() {
        OverlayNet x = new OverlayNet();
        x.directory(false);
        x.machine(0, 0, 0);
        x.machine(1, 0, 1);
        x.run(12);
        x.send(0, 1, 7);
        Check.due("asked: packets", x.packets(), 3);
        x.run(2);
        Check.due("one answers: packets", x.packets(), 1);
        Check.due("answer: port", x.header(0, 5), 49152 + 13);
        x.run(2);
        Check.due("answered: known", x.known(0, 1), 1);
        Check.due("answered: the message is on a link", x.packets(), 1);
        Check.due("message: port", x.header(0, 5), 49152 + 7);
        Check.due("asked at 12, received at 18", x.run(2), 1);
        x.run(1);
        Check.due("tick 19: row", x.row(0), 1);
        x.run(1);
        Check.due("tick 20: row", x.row(0), 0);
        Check.due("tick 20: packets", x.packets(), 0);
    }

    private static void triesAreEightTicksApart() {
        OverlayNet x = new OverlayNet();
        x.directory(false);
        x.link(0, false);
        x.link(1, false);
        x.machine(0, 0, 0);
        x.run(3);
        x.send(0, 1, 7);
        Check.due("first try", x.dropped(), 3);
        x.run(7);
        Check.due("7 ticks later", x.dropped(), 3);
        x.run(1);
        Check.due("8 ticks later", x.dropped(), 6);
        x.run(7);
        Check.due("15 ticks later", x.dropped(), 6);
        x.send(0, 2, 7);
        Check.due("a second message does not make it try", x.dropped(), 6);
        x.run(1);
        Check.due("16 ticks later", x.dropped(), 9);
        x.run(60);
        Check.due("76 ticks later", x.dropped(), 30);
        Check.due("the row is as it was", x.row(0), 2);
    }

    /** A move's answer makes it try at once, and the next try is 8 ticks after that one. */
    private static void anAnswerMakesItTry() {
        OverlayNet x = new OverlayNet();
        x.directory(false);
        x.machine(0, 0, 0);
        x.machine(1, 0, 1);
        x.run(12);
        x.lose(3);
        x.send(0, 1, 7);
        Check.due("the question is lost", x.dropped(), 3);
        x.run(3);
        x.move(1, 0);
        Check.due("moved beside it: known", x.known(0, 1), 1);
        received("moved beside it", x, 1, 0, 1, 7);
        Check.due("moved beside it: row", x.row(0), 0);

        OverlayNet y = pair();
        y.lose(1);
        y.send(0, 1, 7);
        y.send(0, 2, 8);
        Check.due("the message is lost", y.dropped(), 1);
        y.run(2);
        y.move(1, 3);
        y.run(2);
        Check.due("the answer to all has arrived: it tries again", y.packets(), 1);
        y.lose(1);
        y.run(1);
        Check.due("lost again", y.packets(), 0);
        Check.due("tried at 12 and 16: nothing until 23", y.run(6), 0);
        Check.due("tick 23", y.packets(), 0);
        y.run(1);
        Check.due("tick 24: it tries", y.packets(), 1);
        Check.due("tick 26", y.run(2), 1);
        received("tick 26", y, 1, 0, 1, 7);
    }

    private static void aRowIsSentInOrder() {
        OverlayNet x = pair();
        for (int i = 1; i <= 4; i++) {
            x.send(0, 1, 10 * i);
            Check.due("row after " + i, x.row(0), i);
        }
        Check.refused("a fifth", IllegalStateException.class, () -> x.send(0, 1, 50));
        Check.refused("a fifth to itself", IllegalArgumentException.class, () -> x.send(0, 0, 50));
        Check.due("one at a time", x.packets(), 1);
        for (int i = 1; i <= 4; i++) {
            Check.due("message " + i, x.run(2), 1);
            received("message " + i, x, 1, 0, i, 10 * i);
            Check.due("before receipt " + i, x.row(0), 5 - i);
            Check.due("receipt " + i, x.run(2), 0);
            Check.due("after receipt " + i, x.row(0), 4 - i);
        }
        Check.due("dropped", x.dropped(), 0);
        Check.due("packets", x.packets(), 0);
    }

    private static void numbersCountForEachReceiver() {
        OverlayNet x = new OverlayNet();
        x.machine(0, 0, 0);
        x.machine(1, 0, 1);
        x.machine(2, 0, 2);
        x.run(12);
        x.send(0, 1, 11);
        x.send(0, 2, 21);
        x.send(0, 1, 12);
        x.send(2, 1, 31);
        Check.due("three receivers", x.run(13), 4);
        received("the first", x, 1, 0, 2, 12);
        received("the second", x, 2, 0, 1, 21);
        received("from another", x, 1, 2, 1, 31);
        Check.due("all rows are empty", x.row(0) + x.row(1) + x.row(2), 0);
    }

    private static void aLostReceipt() {
        OverlayNet x = pair();
        x.send(0, 1, 7);
        x.run(1);
        x.lose(1);
        Check.due("received", x.run(1), 1);
        Check.due("the receipt is lost", x.dropped(), 1);
        x.run(5);
        Check.due("tick 19: row", x.row(0), 1);
        Check.due("tick 19: packets", x.packets(), 0);
        x.run(1);
        Check.due("tick 20: sent again", x.packets(), 1);
        Check.due("not received again", x.run(4), 0);
        received("once", x, 1, 0, 1, 7);
        Check.due("tick 24: row", x.row(0), 0);
        x.send(0, 1, 8);
        Check.due("the next one", x.run(4), 1);
        received("the next one", x, 1, 0, 2, 8);
    }

    /** Machine 1 goes away and comes back at 12, so that at 14 the first message is sent again; its
     *  second receipt comes at 18, when another message is the first in the row. */
    private static void aReceiptThatComesTwice() {
        for (int second = 1; second <= 2; second++) {
            String when = "the second message for address " + second;
            OverlayNet x = new OverlayNet();
            x.machine(0, 0, 0);
            x.machine(1, 0, 1);
            x.machine(3, 0, 2);
            x.run(12);
            x.send(0, 1, 7);
            x.send(0, second, 8);
            x.move(1, 2);
            x.move(1, 1);
            Check.due(when + ": tick 14", x.run(2), 1);
            Check.due(when + ": tick 16", x.run(2), 0);
            Check.due(when + ": tick 16: row", x.row(0), 1);
            Check.due(when + ": tick 18", x.run(2), 1);
            Check.due(when + ": tick 18: row", x.row(0), 1);
            x.run(2);
            Check.due(when + ": tick 20: row", x.row(0), 0);
            received(when, x, second, 0, second == 1 ? 2 : 1, 8);
        }
    }

    private static void anAnswerForAnotherAddress() {
        OverlayNet x = pair();
        x.send(0, 6, 60);
        x.run(2);
        Check.due("nobody answers", x.packets(), 0);
        x.move(1, 2);
        x.run(2);
        Check.due("told of another address", x.known(0, 1), 1);
        Check.due("it does not try", x.packets(), 0);
    }

    /** The receipt goes where the sender was, for the news of its move arrives one packet later. */
    private static void framesAreHandledBeforeTheNextArrival() {
        OverlayNet x = pair();
        x.send(0, 1, 7);
        x.move(0, 2);
        Check.due("received", x.run(2), 1);
        Check.due("the receipt is on a link", x.packets(), 1);
        Check.due("the receipt goes to the old leaf", x.header(0, 4), 2560);
        Check.due("the leaf has the new one", x.entry(1, 0, 0), 2);
    }

    /** Machine 0 is answered on the spot and sends its message before machine 1 asks. */
    private static void framesAreHandledBeforeTheNextTurn() {
        OverlayNet x = new OverlayNet();
        x.directory(false);
        x.machine(0, 0, 0);
        x.machine(0, 0, 1);
        x.machine(2, 0, 2);
        x.run(10);
        x.lose(6);
        x.send(0, 2, 5);
        x.send(1, 6, 5);
        Check.due("both questions are lost", x.dropped(), 6);
        x.directory(true);
        x.run(7);
        Check.due("tick 17: packets", x.packets(), 0);
        x.run(1);
        Check.due("tick 18: packets", x.packets(), 4);
        Check.due("the message is the first", x.header(0, 5), 49152 + 14);
        Check.due("the question is behind it", x.header(1, 5), 49152 + 54);
        Check.due("in the order of leaves", x.header(3, 4), 2563);
    }

    private static void anUnknownAddressHoldsTheRow() {
        OverlayNet x = pair();
        x.send(0, 6, 60);
        x.send(0, 1, 10);
        Check.due("nobody has the address", x.run(20), 0);
        Check.due("nobody has the address: row", x.row(0), 2);
        Check.due("machine", x.machine(3, 0, 6), 2);
        Check.due("somebody has it now", x.run(30), 2);
        received("somebody has it now", x, 2, 0, 1, 60);
        received("the one behind it", x, 1, 0, 1, 10);
        Check.due("row", x.row(0), 0);
    }

    private static void tenantsAreApart() {
        OverlayNet x = new OverlayNet();
        x.machine(0, 0, 0);
        x.machine(0, 1, 1);
        x.machine(1, 1, 1 + 1);
        x.run(12);
        x.send(0, 1, 5);
        Check.due("no such address in this tenant", x.run(30), 0);
        Check.refused("known(0, 1)", NoSuchElementException.class, () -> x.known(0, 1));
        noValue("another tenant's machine with the address", x, 1, 0);
        Check.due("the same address in another tenant", x.machine(2, 2, 1), 3);
        Check.due("the same address in this tenant", x.machine(2, 0, 1), 4);
        Check.due("received", x.run(20), 1);
        received("received", x, 4, 0, 1, 5);
    }

    private static void aMoveInBetween() {
        OverlayNet x = pair();
        x.directory(false);
        x.send(0, 1, 7);
        x.run(1);
        x.move(1, 2);
        x.lose(2);
        Check.due("the message comes to the old leaf", x.run(1), 0);
        noValue("the message comes to the old leaf", x, 1, 0);
        Check.due("the move told leaf 3 alone", x.dropped(), 2);
        Check.due("one packet is left", x.packets(), 1);
        Check.due("goes to leaf 3", x.header(0, 4), 2563);
        Check.due("leaf 0 still has the old place", x.entry(0, 1, 0), 1);
        x.run(5);
        Check.due("tick 19", x.packets(), 0);
        x.run(1);
        Check.due("tick 20: sent to the old place", x.header(0, 4), 2561);
        Check.due("nobody is there", x.run(3), 0);
        x.directory(true);
        Check.due("the directory has told at 24, sent again at 28: tick 29", x.run(6), 0);
        Check.due("tick 30", x.run(1), 1);
        received("found", x, 1, 0, 1, 7);
        x.run(2);
        Check.due("found: row", x.row(0), 0);
    }

    /** What machine 0 knows outlives what its leaf has: then the message goes to all leaves. */
    private static void anUnknownPlaceIsFlooded() {
        OverlayNet x = pair();
        x.send(0, 1, 7);
        x.directory(false);
        x.run(60);
        x.run(60);
        Check.refused("forgotten", NoSuchElementException.class, () -> x.entry(0, 1, 0));
        Check.due("known still", x.known(0, 1), 1);
        x.send(0, 1, 8);
        Check.due("to each other leaf", x.packets(), 3);
        Check.due("a message's port", x.header(2, 5), 49152 + 7);
        Check.due("received once", x.run(2), 1);
        Check.due("one receipt", x.packets(), 1);
        received("received once", x, 1, 0, 2, 8);
    }
}
