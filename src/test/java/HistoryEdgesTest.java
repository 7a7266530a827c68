/** The edges of undo() and of the slots: each of these sentences has a test of its own. */
public final class HistoryEdgesTest {
    private static final int BAD_VALUE = -2, NOT_POSSIBLE = -5;
    private static final int[] FAR = {Integer.MIN_VALUE, -65537, -2, -1, 65536, 1 << 30, Integer.MAX_VALUE};

    private static final Check check = new Check("HistoryEdgesTest");

    public static void main(String[] args) {
        nothingToUndo();
        sixStates();
        theOldestIsDropped();
        undoneAndDoneAgain();
        allButThePadAndTheSlots();
        alsoIfNothingIsDifferent();
        refusedOnesRecordNothing();
        whatIsNotAChange();
        undoOfEachChange();
        undoOfWhatComesNext();
        slotNumbers();
        nothingSaved();
        howManyCarts();
        savedOverWhatWasThere();
        twoSlots();
        theSlotKeepsIt();
        restoreIsAChange();
        restoreOfAllButThePad();
        aFullWorldAndAnEmptyOne();
        check.end();
    }

    private static void due(String call, long got, long want) {
        check.due(call, got, want);
    }

    private static void due(String what, String got, String want) {
        check.due(what, got, want);
    }

    /** BAR was set to 1, 2, 3 and so on, so many times. */
    private static BridgeWardens barUpTo(int changes) {
        BridgeWardens x = new BridgeWardens();
        for (int value = 1; value <= changes; value++) {
            x.set(0, value);
        }
        return x;
    }

    private static int barBehind(int changes) {
        return changes == 0 ? 3 : changes;
    }

    /** A small world in which nothing is as it is at first; carts 1 and 2 wait, and cart 0 came over to town 2. */
    private static BridgeWardens busy() {
        BridgeWardens x = new BridgeWardens();
        x.set(3, 6);
        x.bridge(0, 1, 100);
        x.bridge(0, 2, 10);
        x.cart(0, 10);
        x.cart(0, 20);
        x.cart(2, 30);
        x.hint(0, 1);
        x.hint(1, 0);
        x.guess(1, 0, 50);
        x.guess(2, 1, 4);
        x.guess(0, 1, 4);
        x.pass(2);
        x.hint(0, 1);
        return x;
    }

    // ---- undo

    private static void nothingToUndo() {
        check.sentence("Returns how many changes can be undone then; NOT_POSSIBLE if there is none");
        BridgeWardens x = new BridgeWardens();
        due("undo() of a new one", x.undo(), NOT_POSSIBLE);
        due("count(14)", x.count(14), 0);
        due("undo() again", x.undo(), NOT_POSSIBLE);
        x.set(0, 1);
        due("undo() of one", x.undo(), 0);
        due("undo() of none", x.undo(), NOT_POSSIBLE);
        due("count(9)", x.count(9), 3);
        due("count(14)", x.count(14), 0);
        x.set(0, 2);
        due("count(14) of a new change", x.count(14), 1);
        due("undo()", x.undo(), 0);
        due("count(9)", x.count(9), 3);
    }

    private static void sixStates() {
        check.sentence("A history of at most 6 states is kept");
        for (int changes = 0; changes <= 40; changes++) {
            int kept = Math.min(changes, 6);
            BridgeWardens x = barUpTo(changes);
            due("count(14) behind " + changes, x.count(14), kept);
            for (int undone = 1; undone <= kept; undone++) {
                due("undo() of " + changes, x.undo(), kept - undone);
                due("count(9)", x.count(9), barBehind(changes - undone));
                due("count(14)", x.count(14), kept - undone);
            }
            due("undo() of none", x.undo(), NOT_POSSIBLE);
            due("count(9)", x.count(9), barBehind(changes - kept));
        }
    }

    private static void theOldestIsDropped() {
        check.sentence("when one more is recorded, the oldest one is dropped");
        BridgeWardens x = barUpTo(6);
        due("count(14) of six", x.count(14), 6);
        x.set(0, 7);
        due("count(14) of seven", x.count(14), 6);
        for (int left = 5; left >= 0; left--) {
            due("undo()", x.undo(), left);
        }
        due("count(9) is not the first value", x.count(9), 1);
        due("undo()", x.undo(), NOT_POSSIBLE);
    }

    /** Back and forth by all numbers of steps, so that the places of the history are used again in all orders. */
    private static void undoneAndDoneAgain() {
        check.sentence("Undoes the latest change; each method that is a change records the state before it");
        for (int back = 1; back <= 6; back++) {
            for (int forth = 0; forth <= 8; forth++) {
                BridgeWardens x = barUpTo(9);
                for (int undone = 0; undone < back; undone++) {
                    x.undo();
                }
                for (int value = 0; value < forth; value++) {
                    x.set(0, 20 + value);
                }
                int kept = Math.min(6, 6 - back + forth);
                due("count(14), " + back + " back and " + forth + " forth", x.count(14), kept);
                for (int undone = 1; undone <= kept; undone++) {
                    due("undo()", x.undo(), kept - undone);
                    int again = forth - undone;
                    due("count(9)", x.count(9), again > 0 ? 19 + again : 9 - back + again);
                }
                due("undo() of none", x.undo(), NOT_POSSIBLE);
            }
        }
    }

    private static void allButThePadAndTheSlots() {
        check.sentence("everything except the pad, the slots and the history is as it was before it");
        BridgeWardens x = busy();
        String before = Check.state(x);
        x.set(0, 9);
        x.save(0);
        Check.type(x, "pad");
        due("undo()", x.undo(), 5);
        due("the state", Check.state(x), before);
        due("the pad", Check.pad(x), "pad");
        due("restore(0)", x.restore(0), 3);
        due("count(9) of the slot", x.count(9), 9);
        due("restore(1): nothing was saved", x.restore(1), NOT_POSSIBLE);
        due("undo()", x.undo(), 5);
        due("the state", Check.state(x), before);
    }

    private static void alsoIfNothingIsDifferent() {
        check.sentence("each method that is a change, and returns no error, records the state before it (also if nothing is different then)");
        BridgeWardens x = new BridgeWardens();
        x.set(0, 3);
        due("count(14) behind set() to the same", x.count(14), 1);
        Check.type(x, "l0");
        x.carryOut();
        due("count(14) behind orders of which none is carried out", x.count(14), 2);
        x.save(0);
        x.restore(0);
        due("count(14) behind restore() of the same", x.count(14), 3);
        x.bridge(0, 1, 2);
        x.cart(0, 0);
        x.set(1, 0);
        x.hint(0, 0);
        due("count(14)", x.count(14), 6);
        due("undo()", x.undo(), 5);
        due("undo()", x.undo(), 4);
        due("undo()", x.undo(), 3);
        due("undo()", x.undo(), 2);
        due("undo()", x.undo(), 1);
        due("undo()", x.undo(), 0);
        due("count(1)", x.count(1), 0);
    }

    private static void refusedOnesRecordNothing() {
        check.sentence("each method that is a change, and returns no error: one that returns an error records nothing");
        for (int changes = 0; changes <= 8; changes++) {
            BridgeWardens x = barUpTo(changes);
            int kept = Math.min(changes, 6);
            x.set(0, 51);
            x.bridge(0, 0, 5);
            x.cart(0, -1);
            x.guess(0, 0, 0);
            x.leave(0);
            x.hint(0, 0);
            x.pass(0);
            x.carryOut();
            x.restore(0);
            x.write(0);
            due("count(14) behind " + changes, x.count(14), kept);
            for (int undone = 1; undone <= kept; undone++) {
                due("undo()", x.undo(), kept - undone);
                due("count(9)", x.count(9), barBehind(changes - undone));
                due("a refused one between", x.set(4, 0), BAD_VALUE);
            }
            due("undo() of none", x.undo(), NOT_POSSIBLE);
        }
    }

    private static void whatIsNotAChange() {
        check.sentence("This is not a change");
        BridgeWardens x = busy();
        for (int undone = 0; undone < 4; undone++) {
            x.undo();
        }
        due("count(14)", x.count(14), 2);
        x.write(0);
        x.put('a');
        x.wipe();
        x.save(0);
        x.save(1);
        x.fault();
        x.next(0);
        x.why(0);
        x.overIn(0);
        x.wins(0, 0, 0, 1);
        x.bestGuess(0, 0, 0, 0);
        x.route(0, 1, 0);
        x.would(9, 0);
        x.knows(0, 0, 0);
        x.waits(0, 0);
        x.sign(0);
        due("count(14) as it was", x.count(14), 2);
        due("undo()", x.undo(), 1);
    }

    private static void undoOfEachChange() {
        check.sentence("everything except the pad, the slots and the history is as it was before it: of each method that is a change");
        for (int change = 0; change < 10; change++) {
            BridgeWardens x = busy();
            x.save(1);
            x.set(2, 9);
            String before = Check.state(x);
            due("the change " + change, changed(x, change) >= 0 ? 1 : 0, 1);
            due("it changes something", Check.state(x).equals(before) ? 1 : 0, 0);
            due("undo()", x.undo(), 5);
            due("the state before " + change, Check.state(x), before);
        }
    }

    private static int changed(BridgeWardens x, int change) {
        switch (change) {
            case 0:
                return x.set(2, 50);
            case 1:
                return x.bridge(7, 6, 1000);
            case 2:
                return x.cart(7, 9999);
            case 3:
                return x.guess(0, 1, 9);
            case 4:
                return x.leave(1);
            case 5:
                return x.hint(1, 0);
            case 6:
                return x.pass(1);
            case 7:
                return x.pass(99);
            case 8:
                Check.type(x, "b67*1000;c7*9999;p50;l1");
                return x.carryOut();
            default:
                return x.restore(1);
        }
    }

    private static void undoOfWhatComesNext() {
        check.sentence("everything is as it was before it: also the riddles to come, the lines and the numbers of what comes");
        BridgeWardens x = busy();
        x.bridge(3, 4, 1000);
        int riddle = x.ofBridge(2, 3);
        x.undo();
        x.pass(99);
        x.undo();
        due("bridge(3, 4, 1000)", x.bridge(3, 4, 1000), 2);
        due("its riddle", x.ofBridge(2, 3), riddle);
        due("cart(3, 4)", x.cart(3, 4), 3);
        x.undo();
        due("cart(5, 6)", x.cart(5, 6), 3);
        due("ofCart(3, 0)", x.ofCart(3, 0), 5);
        due("ofCart(3, 1)", x.ofCart(3, 1), 6);
        due("knows(3, 2, 1)", x.knows(3, 2, 1), 999);
        x.undo();
        x.cart(0, 5);
        x.set(1, 0);
        x.hint(3, 0);
        x.guess(3, 0, 9);
        x.pass(30);
        for (int undone = 0; undone < 5; undone++) {
            x.undo();
        }
        x.cart(7, 8);
        int[] parts = {7, 8, -6, -6, 0, 0, 0, 0};
        for (int what = 0; what < 8; what++) {
            due("ofCart(3, " + what + ")", x.ofCart(3, what), parts[what]);
        }
        due("knows(3, 0, 0)", x.knows(3, 0, 0), 0);
    }

    // ---- slots

    private static void slotNumbers() {
        check.sentence("slot: 0 or 1; BAD_VALUE if there is no such slot");
        BridgeWardens x = new BridgeWardens();
        due("save(2)", x.save(2), BAD_VALUE);
        due("restore(2)", x.restore(2), BAD_VALUE);
        for (int far : FAR) {
            due("save(" + far + ")", x.save(far), BAD_VALUE);
            due("restore(" + far + ")", x.restore(far), BAD_VALUE);
        }
        due("restore(0): nothing was saved", x.restore(0), NOT_POSSIBLE);
        due("restore(1): nothing was saved", x.restore(1), NOT_POSSIBLE);
        due("save(0)", x.save(0), 0);
        due("save(1)", x.save(1), 0);
        due("restore(2): both were saved", x.restore(2), BAD_VALUE);
        due("restore(-1): both were saved", x.restore(-1), BAD_VALUE);
        due("count(14)", x.count(14), 0);
    }

    private static void nothingSaved() {
        check.sentence("NOT_POSSIBLE if nothing was saved in it");
        for (int slot = 0; slot < 2; slot++) {
            BridgeWardens x = busy();
            String before = Check.state(x);
            due("restore(" + slot + ")", x.restore(slot), NOT_POSSIBLE);
            x.save(1 - slot);
            due("restore(" + slot + "), the other one was saved", x.restore(slot), NOT_POSSIBLE);
            due("the state", Check.state(x), before);
            due("save(" + slot + ")", x.save(slot), 3);
            due("restore(" + slot + ")", x.restore(slot), 3);
        }
        BridgeWardens x = new BridgeWardens();
        x.save(0);
        due("restore(0) of an empty state", x.restore(0), 0);
    }

    private static void howManyCarts() {
        check.sentence("Returns how many carts there are; restore: then");
        BridgeWardens x = new BridgeWardens();
        due("save(0) of none", x.save(0), 0);
        for (int carts = 1; carts <= 8; carts++) {
            x.cart(0, 0);
            due("save(1)", x.save(1), carts);
        }
        due("restore(0)", x.restore(0), 0);
        due("count(2)", x.count(2), 0);
        due("restore(1)", x.restore(1), 8);
        due("count(2)", x.count(2), 8);
        due("undo()", x.undo(), 5);
        due("count(2)", x.count(2), 0);
    }

    private static void savedOverWhatWasThere() {
        check.sentence("and overwrites what was saved there; Restores what was saved last in a slot");
        BridgeWardens x = new BridgeWardens();
        for (int value = 10; value < 14; value++) {
            x.set(0, value);
            x.save(value % 2);
        }
        x.set(0, 1);
        x.restore(0);
        due("count(9) of slot 0", x.count(9), 12);
        x.restore(1);
        due("count(9) of slot 1", x.count(9), 13);
    }

    private static void twoSlots() {
        check.sentence("Saves everything except the pad, the history and the slots in a slot: the other one stays");
        BridgeWardens x = busy();
        x.save(0);
        String busy = Check.state(x);
        x.pass(9);
        x.cart(5, 5);
        x.save(1);
        x.restore(0);
        due("the state of slot 0", Check.state(x), busy);
        x.restore(1);
        due("count(2) of slot 1", x.count(2), 4);
        due("count(0) of slot 1", x.count(0), 11);
    }

    private static void theSlotKeepsIt() {
        check.sentence("Restores what was saved last in a slot, which keeps it");
        BridgeWardens x = busy();
        x.save(0);
        for (int times = 0; times < 3; times++) {
            x.leave(1);
            x.pass(9);
            x.set(0, 9);
            x.cart(5, 5);
            due("restore(0)", x.restore(0), 3);
        }
        due("the state", Check.state(x), Check.state(busy()));
    }

    private static void restoreIsAChange() {
        check.sentence("restore: This is a change");
        BridgeWardens x = barUpTo(2);
        x.save(0);
        x.set(0, 30);
        due("restore(0)", x.restore(0), 0);
        due("count(14)", x.count(14), 4);
        due("count(9)", x.count(9), 2);
        due("undo()", x.undo(), 3);
        due("count(9)", x.count(9), 30);
        due("undo()", x.undo(), 2);
        due("count(9)", x.count(9), 2);
        x = barUpTo(6);
        x.save(1);
        x.restore(1);
        for (int left = 5; left >= 0; left--) {
            due("undo()", x.undo(), left);
        }
        due("the oldest of a full history was dropped", x.count(9), 1);
        check.sentence("Saves everything except the pad, the history and the slots");
        x = barUpTo(4);
        x.save(0);
        x.undo();
        x.undo();
        x.restore(0);
        due("count(14): the history is not restored", x.count(14), 3);
    }

    private static void restoreOfAllButThePad() {
        check.sentence("Saves everything except the pad");
        BridgeWardens x = busy();
        Check.type(x, "saved");
        x.save(0);
        x.wipe();
        Check.type(x, "other");
        x.restore(0);
        due("the pad", Check.pad(x), "other");
        x.wipe();
        x.restore(0);
        due("count(13)", x.count(13), 0);
        x.bridge(0, 1, 1000);
        BridgeWardens same = busy();
        same.bridge(0, 1, 1000);
        due("riddles go on as they were saved", x.ofBridge(2, 3), same.ofBridge(2, 3));
        due("overIn(1) as it was saved", x.overIn(1), same.overIn(1));
    }

    private static void aFullWorldAndAnEmptyOne() {
        check.sentence("Restores what was saved: nothing at all, and as much as there can be");
        BridgeWardens x = new BridgeWardens();
        x.save(0);
        for (int bridge = 0; bridge < 12; bridge++) {
            x.bridge(bridge % 7, 7, 1000);
        }
        for (int cart = 0; cart < 8; cart++) {
            x.cart(7, 9999);
            x.hint(cart, 11 - cart);
            x.guess(cart, 11 - cart, 0);
        }
        x.pass(9);
        String full = Check.bridges(x) + Check.carts(x);
        x.save(1);
        due("restore(0)", x.restore(0), 0);
        due("count(1)", x.count(1), 0);
        due("count(3)", x.count(3), 0);
        due("count(6)", x.count(6), 0);
        due("bridge(5, 6, 75)", x.bridge(5, 6, 75), 0);
        due("its riddle", x.ofBridge(0, 3), 74);
        due("cart(5, 1)", x.cart(5, 1), 0);
        due("restore(1)", x.restore(1), 8);
        due("the state", Check.bridges(x) + Check.carts(x), full);
    }
}
