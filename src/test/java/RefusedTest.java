import java.util.ArrayList;
import java.util.EnumMap;
import java.util.List;
import java.util.Map;

/**
 * "A call that returns an error changes nothing": behind each call that is refused, all that can be found out is as it
 * would be without it, the pad, the history, the slots and the riddles to come too. The same holds behind each question,
 * but for the pad or the slot that a call writes.
 */
public final class RefusedTest {
    private static final int NO_SUCH = -1, BAD_VALUE = -2, BAD_TEXT = -3, TOO_MANY = -4, NOT_POSSIBLE = -5;
    private static final int LEAST = Integer.MIN_VALUE;
    private static final int MOST = Integer.MAX_VALUE;

    private static final Check check = new Check("RefusedTest");
    private static final Map<Scene, List<String>> LOOKS = new EnumMap<>(Scene.class);

    private interface Call {
        int on(BridgeWardens x);
    }

    /** What is there ahead of the call. */
    private enum Scene { NEW, YOUNG, BUSY, FULL, LATE }

    /** What is done behind the call, ahead of the look at what there is. */
    private enum Step { NOTHING, UNDO_1, UNDO_2, UNDO_3, UNDO_4, UNDO_5, UNDO_6, RESTORE_0, RESTORE_1, GO_ON }

    private enum Part { COUNTS, PAD, BRIDGES, CARTS, RANGES, WHAT_IF }

    /** What a call may change though it is no change. */
    private enum But { NOTHING, THE_PAD, SLOT_0, SLOT_1 }

    public static void main(String[] args) {
        numbersOfSettings();
        bridges();
        carts();
        guesses();
        leavings();
        hints();
        hours();
        notes();
        questionsAboutWhatThereIs();
        questionsAboutGuesses();
        questionsAboutRoutesAndHours();
        characters();
        orders();
        ordersThatAreRefused();
        undoing();
        slots();
        questionsThatAreAnswered();
        callsThatAreNoChanges();
        check.end();
    }

    private static BridgeWardens made(Scene scene) {
        switch (scene) {
            case NEW:
                return new BridgeWardens();
            case YOUNG:
                return young();
            case BUSY:
                return busy();
            case FULL:
                return full();
            default:
                return late();
        }
    }

    /** Two changes in the history, no slot, and no pad. */
    private static BridgeWardens young() {
        BridgeWardens x = new BridgeWardens();
        x.bridge(0, 1, 100);
        x.cart(0, 2);
        return x;
    }

    /** A full history, slot 0, and a pad with a fault; cart 0 knows the riddle of bridge 1, carts 1 and 3 wait. */
    private static BridgeWardens busy() {
        BridgeWardens x = new BridgeWardens();
        x.set(3, 7);
        x.bridge(0, 1, 100);
        x.bridge(0, 2, 10);
        x.cart(0, 10);
        x.cart(0, 20);
        x.cart(0, 0);
        x.cart(2, 40);
        x.save(0);
        x.hint(0, 1);
        x.hint(0, 1);
        x.hint(0, 1);
        x.hint(1, 0);
        x.guess(1, 0, 50);
        x.guess(3, 1, 4);
        x.pass(2);
        Check.type(x, "p1;c1*");
        return x;
    }

    /** As many bridges, carts and characters as there can be, both slots, and all carts wait. */
    private static BridgeWardens full() {
        BridgeWardens x = new BridgeWardens();
        x.set(3, 20);
        for (int bridge = 0; bridge < 12; bridge++) {
            x.bridge(bridge % 7, 7, 1000);
        }
        x.save(1);
        for (int cart = 0; cart < 8; cart++) {
            x.cart(7, 1000 * cart);
            x.guess(cart, cart / 2, cart);
        }
        x.save(0);
        x.pass(1);
        Check.type(x, "p1;".repeat(26) + "p1");
        return x;
    }

    /** No hour is left. */
    private static BridgeWardens late() {
        BridgeWardens x = new BridgeWardens();
        x.bridge(0, 1, 100);
        x.cart(0, 10);
        x.cart(0, 10);
        for (int times = 0; times < 101; times++) {
            x.pass(99);
        }
        x.guess(0, 0, 5);
        x.guess(1, 0, 6);
        return x;
    }

    // ---- looks

    private static void take(Step step, BridgeWardens x) {
        switch (step) {
            case NOTHING:
                return;
            case RESTORE_0:
                x.restore(0);
                return;
            case RESTORE_1:
                x.restore(1);
                return;
            case GO_ON:
                x.bridge(3, 4, 1000);
                x.set(3, 1);
                x.pass(30);
                return;
            default:
                for (int times = 0; times < step.ordinal(); times++) {
                    x.undo();
                }
        }
    }

    private static String look(Part part, BridgeWardens x) {
        switch (part) {
            case COUNTS:
                return Check.counts(x) + x.count(14);
            case PAD:
                return Check.pad(x) + x.fault();
            case BRIDGES:
                return Check.bridges(x);
            case CARTS:
                return Check.carts(x);
            case RANGES:
                return Check.ranges(x);
            default:
                return whatIf(x);
        }
    }

    private static String whatIf(BridgeWardens x) {
        StringBuilder text = new StringBuilder();
        for (int cart = 0; cart < 8; cart++) {
            text.append(x.why(cart)).append(' ').append(x.overIn(cart)).append(' ');
        }
        for (int bridge = 0; bridge < 12; bridge++) {
            text.append(x.next(bridge)).append(' ');
        }
        for (int what = 0; what < 4; what++) {
            text.append(x.would(25, what)).append(' ');
        }
        return text.toString();
    }

    /** Each look on an object of its own, as it takes steps, and as an object has no more than 512 calls. */
    private static String seen(Scene scene, Call call, Step step, Part part) {
        BridgeWardens x = made(scene);
        if (call != null) {
            call.on(x);
        }
        take(step, x);
        return look(part, x);
    }

    private static String looksWithout(Scene scene, Step step, Part part) {
        List<String> looks = LOOKS.computeIfAbsent(scene, RefusedTest::looksOf);
        return looks.get(step.ordinal() * Part.values().length + part.ordinal());
    }

    private static List<String> looksOf(Scene scene) {
        List<String> looks = new ArrayList<>();
        for (Step step : Step.values()) {
            for (Part part : Part.values()) {
                looks.add(seen(scene, null, step, part));
            }
        }
        return looks;
    }

    private static void refused(Scene scene, String name, int error, Call call) {
        check.due(name + " in " + scene, call.on(made(scene)), error);
        unchanged(scene, name, But.NOTHING, call);
    }

    private static void unchanged(Scene scene, String name, But but, Call call) {
        for (Step step : Step.values()) {
            if (but == But.SLOT_0 && step == Step.RESTORE_0 || but == But.SLOT_1 && step == Step.RESTORE_1) {
                continue;
            }
            for (Part part : Part.values()) {
                if (but != But.THE_PAD || part != Part.PAD) {
                    check.due(part + " behind " + name + " in " + scene + " and " + step, seen(scene, call, step, part),
                        looksWithout(scene, step, part));
                }
            }
        }
    }

    // ---- changes

    private static void numbersOfSettings() {
        check.sentence("set: BAD_VALUE if there is no such setting, or the value is out of its range");
        int[] above = {51, 21, 51, 21};
        for (int i = 0; i < 4; i++) {
            int setting = i;
            refused(Scene.YOUNG, "set below", BAD_VALUE, x -> x.set(setting, setting == 3 ? 0 : -1));
            refused(Scene.BUSY, "set above", BAD_VALUE, x -> x.set(setting, above[setting]));
        }
        refused(Scene.NEW, "set(-1, 1)", BAD_VALUE, x -> x.set(-1, 1));
        refused(Scene.BUSY, "set(4, 1)", BAD_VALUE, x -> x.set(4, 1));
        refused(Scene.FULL, "set(most, 1)", BAD_VALUE, x -> x.set(MOST, 1));
        refused(Scene.FULL, "set(0, least)", BAD_VALUE, x -> x.set(0, LEAST));
    }

    private static void bridges() {
        check.sentence("bridge: NO_SUCH if there is no such town; BAD_VALUE if both towns are the same, or size is out of range; "
            + "TOO_MANY if there are 12 bridges");
        refused(Scene.NEW, "bridge(-1, 0, 5)", NO_SUCH, x -> x.bridge(-1, 0, 5));
        refused(Scene.YOUNG, "bridge(0, 8, 5)", NO_SUCH, x -> x.bridge(0, 8, 5));
        refused(Scene.BUSY, "bridge(8, 8, 1)", NO_SUCH, x -> x.bridge(8, 8, 1));
        refused(Scene.NEW, "bridge(3, 3, 5)", BAD_VALUE, x -> x.bridge(3, 3, 5));
        refused(Scene.YOUNG, "bridge(0, 1, 1)", BAD_VALUE, x -> x.bridge(0, 1, 1));
        refused(Scene.BUSY, "bridge(0, 1, 1001)", BAD_VALUE, x -> x.bridge(0, 1, 1001));
        refused(Scene.FULL, "bridge(0, 1, 5)", TOO_MANY, x -> x.bridge(0, 1, 5));
        refused(Scene.FULL, "bridge(0, 0, 5)", BAD_VALUE, x -> x.bridge(0, 0, 5));
        refused(Scene.FULL, "bridge(0, 8, 5)", NO_SUCH, x -> x.bridge(0, 8, 5));
    }

    private static void carts() {
        check.sentence("cart: NO_SUCH if there is no such town; BAD_VALUE if coins is out of range; TOO_MANY if there are 8 carts");
        refused(Scene.NEW, "cart(-1, 5)", NO_SUCH, x -> x.cart(-1, 5));
        refused(Scene.YOUNG, "cart(8, 10000)", NO_SUCH, x -> x.cart(8, 10000));
        refused(Scene.YOUNG, "cart(0, -1)", BAD_VALUE, x -> x.cart(0, -1));
        refused(Scene.BUSY, "cart(0, 10000)", BAD_VALUE, x -> x.cart(0, 10000));
        refused(Scene.FULL, "cart(0, 5)", TOO_MANY, x -> x.cart(0, 5));
        refused(Scene.FULL, "cart(0, -1)", BAD_VALUE, x -> x.cart(0, -1));
        refused(Scene.FULL, "cart(8, 0)", NO_SUCH, x -> x.cart(8, 0));
    }

    private static void guesses() {
        check.sentence("guess: NO_SUCH if there is no such cart or bridge; BAD_VALUE if guess is out of range; "
            + "NOT_POSSIBLE if the cart waits, or the bridge is not at its town");
        refused(Scene.NEW, "guess(0, 0, 0)", NO_SUCH, x -> x.guess(0, 0, 0));
        refused(Scene.YOUNG, "guess(1, 0, 0)", NO_SUCH, x -> x.guess(1, 0, 0));
        refused(Scene.YOUNG, "guess(0, 1, 0)", NO_SUCH, x -> x.guess(0, 1, 0));
        refused(Scene.BUSY, "guess(-1, 0, 100)", NO_SUCH, x -> x.guess(-1, 0, 100));
        refused(Scene.FULL, "guess(8, 12, 0)", NO_SUCH, x -> x.guess(8, 12, 0));
        refused(Scene.YOUNG, "guess(0, 0, -1)", BAD_VALUE, x -> x.guess(0, 0, -1));
        refused(Scene.BUSY, "guess(0, 1, 10)", BAD_VALUE, x -> x.guess(0, 1, 10));
        refused(Scene.BUSY, "guess(1, 0, 100) of one that waits", BAD_VALUE, x -> x.guess(1, 0, 100));
        refused(Scene.BUSY, "guess(1, 0, 5) of one that waits", NOT_POSSIBLE, x -> x.guess(1, 0, 5));
        refused(Scene.BUSY, "guess(1, 1, 5) of one that waits", NOT_POSSIBLE, x -> x.guess(1, 1, 5));
        refused(Scene.BUSY, "guess(3, 0, 5) elsewhere", NOT_POSSIBLE, x -> x.guess(3, 0, 5));
        refused(Scene.FULL, "guess(7, 11, 5)", NOT_POSSIBLE, x -> x.guess(7, 11, 5));
    }

    private static void leavings() {
        check.sentence("leave: NO_SUCH if there is no such cart; NOT_POSSIBLE if it does not wait");
        refused(Scene.NEW, "leave(0)", NO_SUCH, x -> x.leave(0));
        refused(Scene.YOUNG, "leave(0)", NOT_POSSIBLE, x -> x.leave(0));
        refused(Scene.BUSY, "leave(0)", NOT_POSSIBLE, x -> x.leave(0));
        refused(Scene.BUSY, "leave(4)", NO_SUCH, x -> x.leave(4));
        refused(Scene.FULL, "leave(8)", NO_SUCH, x -> x.leave(8));
        refused(Scene.FULL, "leave(-1)", NO_SUCH, x -> x.leave(-1));
    }

    private static void hints() {
        check.sentence("hint: NO_SUCH if there is no such cart or bridge; NOT_POSSIBLE if the bridge is not at its town, "
            + "the cart has too few coins, or it knows the riddle");
        refused(Scene.NEW, "hint(0, 0)", NO_SUCH, x -> x.hint(0, 0));
        refused(Scene.YOUNG, "hint(1, 0)", NO_SUCH, x -> x.hint(1, 0));
        refused(Scene.YOUNG, "hint(0, 1)", NO_SUCH, x -> x.hint(0, 1));
        refused(Scene.BUSY, "hint(3, 0) elsewhere", NOT_POSSIBLE, x -> x.hint(3, 0));
        refused(Scene.BUSY, "hint(2, 0) without coins", NOT_POSSIBLE, x -> x.hint(2, 0));
        refused(Scene.BUSY, "hint(0, 1) of one that knows", NOT_POSSIBLE, x -> x.hint(0, 1));
        refused(Scene.FULL, "hint(8, 0)", NO_SUCH, x -> x.hint(8, 0));
        refused(Scene.FULL, "hint(0, 12)", NO_SUCH, x -> x.hint(0, 12));
    }

    private static void hours() {
        check.sentence("pass: BAD_VALUE if hours is out of range; NOT_POSSIBLE if there would be more than 9999 hours");
        refused(Scene.NEW, "pass(0)", BAD_VALUE, x -> x.pass(0));
        refused(Scene.BUSY, "pass(100)", BAD_VALUE, x -> x.pass(100));
        refused(Scene.FULL, "pass(-1)", BAD_VALUE, x -> x.pass(-1));
        refused(Scene.FULL, "pass(most)", BAD_VALUE, x -> x.pass(MOST));
        refused(Scene.LATE, "pass(1)", NOT_POSSIBLE, x -> x.pass(1));
        refused(Scene.LATE, "pass(99)", NOT_POSSIBLE, x -> x.pass(99));
        refused(Scene.LATE, "pass(100)", BAD_VALUE, x -> x.pass(100));
    }

    // ---- questions that are refused

    private static void notes() {
        check.sentence("write: NO_SUCH if there is no such cart");
        refused(Scene.NEW, "write(0)", NO_SUCH, x -> x.write(0));
        refused(Scene.BUSY, "write(4)", NO_SUCH, x -> x.write(4));
        refused(Scene.FULL, "write(8)", NO_SUCH, x -> x.write(8));
        refused(Scene.FULL, "write(-1)", NO_SUCH, x -> x.write(-1));
    }

    private static void questionsAboutWhatThereIs() {
        check.sentence("what there is: NO_SUCH, BAD_VALUE");
        refused(Scene.NEW, "ofBridge(0, 0)", NO_SUCH, x -> x.ofBridge(0, 0));
        refused(Scene.BUSY, "ofBridge(2, 8)", NO_SUCH, x -> x.ofBridge(2, 8));
        refused(Scene.BUSY, "ofBridge(1, 8)", BAD_VALUE, x -> x.ofBridge(1, 8));
        refused(Scene.NEW, "ofCart(0, 0)", NO_SUCH, x -> x.ofCart(0, 0));
        refused(Scene.BUSY, "ofCart(4, 8)", NO_SUCH, x -> x.ofCart(4, 8));
        refused(Scene.BUSY, "ofCart(3, 8)", BAD_VALUE, x -> x.ofCart(3, 8));
        refused(Scene.BUSY, "knows(4, 0, 0)", NO_SUCH, x -> x.knows(4, 0, 0));
        refused(Scene.BUSY, "knows(0, 2, 0)", NO_SUCH, x -> x.knows(0, 2, 0));
        refused(Scene.BUSY, "knows(0, 0, 2)", BAD_VALUE, x -> x.knows(0, 0, 2));
        refused(Scene.BUSY, "waits(2, 0)", NO_SUCH, x -> x.waits(2, 0));
        refused(Scene.BUSY, "waits(1, 1)", NO_SUCH, x -> x.waits(1, 1));
        refused(Scene.NEW, "sign(0)", NO_SUCH, x -> x.sign(0));
        refused(Scene.FULL, "sign(80)", NO_SUCH, x -> x.sign(80));
        refused(Scene.FULL, "count(15)", BAD_VALUE, x -> x.count(15));
        refused(Scene.BUSY, "count(-1)", BAD_VALUE, x -> x.count(-1));
    }

    private static void questionsAboutGuesses() {
        check.sentence("next, why, overIn, wins, bestGuess: NO_SUCH, BAD_VALUE, NOT_POSSIBLE");
        refused(Scene.BUSY, "next(2)", NO_SUCH, x -> x.next(2));
        refused(Scene.BUSY, "why(4)", NO_SUCH, x -> x.why(4));
        refused(Scene.BUSY, "overIn(4)", NO_SUCH, x -> x.overIn(4));
        refused(Scene.BUSY, "overIn(0)", NOT_POSSIBLE, x -> x.overIn(0));
        refused(Scene.BUSY, "wins(4, 0, 0, 0)", NO_SUCH, x -> x.wins(4, 0, 0, 0));
        refused(Scene.BUSY, "wins(0, 2, 0, 0)", NO_SUCH, x -> x.wins(0, 2, 0, 0));
        refused(Scene.BUSY, "wins(0, 1, 10, 0)", BAD_VALUE, x -> x.wins(0, 1, 10, 0));
        refused(Scene.BUSY, "wins(0, 1, 0, 10)", BAD_VALUE, x -> x.wins(0, 1, 0, 10));
        refused(Scene.BUSY, "bestGuess(4, 0, 0, 0)", NO_SUCH, x -> x.bestGuess(4, 0, 0, 0));
        refused(Scene.BUSY, "bestGuess(0, 2, 0, 0)", NO_SUCH, x -> x.bestGuess(0, 2, 0, 0));
        refused(Scene.BUSY, "bestGuess(0, 1, 10, 0)", BAD_VALUE, x -> x.bestGuess(0, 1, 10, 0));
        refused(Scene.BUSY, "bestGuess(0, 1, 0, 2)", BAD_VALUE, x -> x.bestGuess(0, 1, 0, 2));
    }

    private static void questionsAboutRoutesAndHours() {
        check.sentence("route, would: NO_SUCH, BAD_VALUE");
        refused(Scene.BUSY, "route(8, 0, 0)", NO_SUCH, x -> x.route(8, 0, 0));
        refused(Scene.BUSY, "route(0, -1, 2)", NO_SUCH, x -> x.route(0, -1, 2));
        refused(Scene.BUSY, "route(0, 1, 2)", BAD_VALUE, x -> x.route(0, 1, 2));
        refused(Scene.BUSY, "would(0, 0)", BAD_VALUE, x -> x.would(0, 0));
        refused(Scene.BUSY, "would(100, 0)", BAD_VALUE, x -> x.would(100, 0));
        refused(Scene.BUSY, "would(1, 4)", BAD_VALUE, x -> x.would(1, 4));
    }

    // ---- texts, undo, slots

    private static void characters() {
        check.sentence("put: BAD_VALUE if there is no character, a code is not 33 to 126, or a bit above 8 bits that are 0 is not 0; "
            + "TOO_MANY if the pad would be longer than 80");
        long[] bad = {0, 32, 127, 128, 255, 0x2041L, 0x4120L, 0x410041L, 0x4100L, 0x0100000000000041L, -1L, Long.MIN_VALUE,
            0x4141414141414180L, 0x8041414141414141L};
        Scene[] scenes = {Scene.NEW, Scene.BUSY, Scene.FULL};
        for (long characters : bad) {
            for (Scene scene : scenes) {
                refused(scene, "put(" + characters + ")", BAD_VALUE, x -> x.put(characters));
            }
        }
        refused(Scene.FULL, "put of one more", TOO_MANY, x -> x.put(65));
        refused(Scene.FULL, "put of eight more", TOO_MANY, x -> x.put(0x4142434445464748L));
    }

    private static void orders() {
        check.sentence("carryOut: BAD_TEXT if the pad has a fault (then it stays)");
        refused(Scene.NEW, "carryOut() of nothing", BAD_TEXT, x -> x.carryOut());
        refused(Scene.YOUNG, "carryOut() of nothing", BAD_TEXT, x -> x.carryOut());
        refused(Scene.BUSY, "carryOut() of a fault", BAD_TEXT, x -> x.carryOut());
    }

    private static void ordersThatAreRefused() {
        check.sentence("up to the first one that returns an error, which changes nothing");
        String[] orders = {"b80*5", "b08*5", "b00*5", "b11*5", "b01*1", "b01*1001", "c8*1", "c9*0", "g9:0=0", "g0:9=0",
            "g0:0=100", "g1:0=5", "g3:0=5", "h9:0", "h0:9", "h2:0", "h3:0", "h0:1", "l9", "l0", "p0", "p100"};
        for (String order : orders) {
            BridgeWardens x = busy();
            BridgeWardens same = busy();
            x.wipe();
            same.wipe();
            Check.type(x, "p1;" + order + ";p1");
            Check.type(same, "p1");
            check.due("carryOut() of p1;" + order + ";p1", x.carryOut(), 1);
            check.due("carryOut() of p1", same.carryOut(), 1);
            check.due("the state behind p1;" + order, Check.state(x), Check.state(same));
            check.due("undo() behind p1;" + order, x.undo(), same.undo());
            check.due("the state behind undo()", Check.counts(x), Check.counts(busy()));
        }
    }

    private static void undoing() {
        check.sentence("undo: NOT_POSSIBLE if there is none");
        refused(Scene.NEW, "undo()", NOT_POSSIBLE, x -> x.undo());
        BridgeWardens x = busy();
        for (int undone = 0; undone < 6; undone++) {
            x.undo();
        }
        String before = Check.state(x) + Check.pad(x);
        check.due("undo() of none", x.undo(), NOT_POSSIBLE);
        check.due("the state", Check.state(x) + Check.pad(x), before);
        check.due("restore(0)", x.restore(0), 4);
        check.due("count(14)", x.count(14), 1);
    }

    private static void slots() {
        check.sentence("save, restore: BAD_VALUE if there is no such slot; NOT_POSSIBLE if nothing was saved in it");
        int[] wrong = {LEAST, -1, 2, MOST};
        for (int slot : wrong) {
            refused(Scene.NEW, "save(" + slot + ")", BAD_VALUE, x -> x.save(slot));
            refused(Scene.BUSY, "save(" + slot + ")", BAD_VALUE, x -> x.save(slot));
            refused(Scene.FULL, "save(" + slot + ")", BAD_VALUE, x -> x.save(slot));
            refused(Scene.YOUNG, "restore(" + slot + ")", BAD_VALUE, x -> x.restore(slot));
            refused(Scene.FULL, "restore(" + slot + ")", BAD_VALUE, x -> x.restore(slot));
        }
        refused(Scene.NEW, "restore(0)", NOT_POSSIBLE, x -> x.restore(0));
        refused(Scene.YOUNG, "restore(1)", NOT_POSSIBLE, x -> x.restore(1));
        refused(Scene.BUSY, "restore(1)", NOT_POSSIBLE, x -> x.restore(1));
    }

    // ---- what is answered, and is no change

    private static void questionsThatAreAnswered() {
        check.sentence("what if; nothing changes");
        Scene[] scenes = {Scene.YOUNG, Scene.BUSY, Scene.FULL, Scene.LATE};
        for (Scene scene : scenes) {
            unchanged(scene, "ofBridge(0, 3)", But.NOTHING, x -> x.ofBridge(0, 3));
            unchanged(scene, "ofCart(0, 1)", But.NOTHING, x -> x.ofCart(0, 1));
            unchanged(scene, "knows(0, 0, 1)", But.NOTHING, x -> x.knows(0, 0, 1));
            unchanged(scene, "waits(0, 0)", But.NOTHING, x -> x.waits(0, 0));
            unchanged(scene, "sign(0)", But.NOTHING, x -> x.sign(0));
            unchanged(scene, "count(14)", But.NOTHING, x -> x.count(14));
            unchanged(scene, "next(0)", But.NOTHING, x -> x.next(0));
            unchanged(scene, "why(0)", But.NOTHING, x -> x.why(0));
            unchanged(scene, "overIn(1)", But.NOTHING, x -> x.overIn(1));
            unchanged(scene, "wins(0, 0, 0, 9)", But.NOTHING, x -> x.wins(0, 0, 0, 9));
            unchanged(scene, "bestGuess(0, 0, 0, 0)", But.NOTHING, x -> x.bestGuess(0, 0, 0, 0));
            unchanged(scene, "route(0, 1, 1)", But.NOTHING, x -> x.route(0, 1, 1));
            unchanged(scene, "would(99, 0)", But.NOTHING, x -> x.would(99, 0));
            unchanged(scene, "fault()", But.NOTHING, x -> x.fault());
        }
    }

    private static void callsThatAreNoChanges() {
        check.sentence("write: This is not a change; put, wipe, save");
        Scene[] scenes = {Scene.NEW, Scene.YOUNG, Scene.BUSY, Scene.FULL, Scene.LATE};
        for (Scene scene : scenes) {
            unchanged(scene, "write(0)", But.THE_PAD, x -> x.write(0));
            unchanged(scene, "put(65)", But.THE_PAD, x -> x.put(65));
            unchanged(scene, "wipe()", But.THE_PAD, x -> x.wipe());
            unchanged(scene, "save(0)", But.SLOT_0, x -> x.save(0));
            unchanged(scene, "save(1)", But.SLOT_1, x -> x.save(1));
        }
    }
}
