/** The promises of the document one by one: ordinary inputs, the edges, wrong inputs. */
public final class PromisesTest {
    private static final int NO_SUCH = BridgeWardens.NO_SUCH;
    private static final int BAD_VALUE = BridgeWardens.BAD_VALUE;
    private static final int BAD_TEXT = BridgeWardens.BAD_TEXT;
    private static final int TOO_MANY = BridgeWardens.TOO_MANY;
    private static final int NOT_POSSIBLE = BridgeWardens.NOT_POSSIBLE;
    private static final int NONE = BridgeWardens.NONE;
    private static final int LEAST = Integer.MIN_VALUE;
    private static final int MOST = Integer.MAX_VALUE;

    private static final Check check = new Check("PromisesTest");
    private static int promise;

    private static void due(String call, long got, long want) {
        check.due("promise " + promise + ": " + call, got, want);
    }

    private static void due(String what, String got, String want) {
        check.due("promise " + promise + ": " + what, got, want);
    }

    /** Riddles 74 of 100 (bridge 0) and 4 of 10 (bridge 1); carts 0, 1 and 2 at town 0, 3 at town 2. */
    private static BridgeWardens valley() {
        BridgeWardens x = new BridgeWardens();
        x.bridge(0, 1, 100);
        x.bridge(0, 2, 10);
        x.cart(0, 10);
        x.cart(0, 20);
        x.cart(0, 0);
        x.cart(2, 40);
        return x;
    }

    /** Carts 0 and 1 wait as near as each other at bridge 1, with these coins; cart 1 came first. */
    private static BridgeWardens tie(int coins, int otherCoins) {
        BridgeWardens x = new BridgeWardens();
        x.bridge(0, 1, 100);
        x.bridge(0, 2, 10);
        x.cart(0, coins);
        x.cart(0, otherCoins);
        x.guess(1, 1, 5);
        x.guess(0, 1, 3);
        return x;
    }

    public static void main(String[] args) {
        constants();
        newObject();
        set();
        bridge();
        riddles();
        cart();
        guess();
        leave();
        hint();
        pass();
        nearerGuess();
        tiesInAnHour();
        waitingAlone();
        gifts();
        manyBridgesInAnHour();
        fullHouse();
        write();
        ofBridge();
        ofCart();
        knows();
        waits();
        sign();
        count();
        next();
        why();
        overIn();
        wins();
        bestGuess();
        route();
        would();
        put();
        wipe();
        fault();
        faultPlaces();
        carryOut();
        undo();
        save();
        restore();
        errorsChangeNothing();
        check.end();
    }

    private static void constants() {
        due("NO_SUCH", NO_SUCH, -1);
        due("BAD_VALUE", BAD_VALUE, -2);
        due("BAD_TEXT", BAD_TEXT, -3);
        due("TOO_MANY", TOO_MANY, -4);
        due("NOT_POSSIBLE", NOT_POSSIBLE, -5);
        due("NONE", NONE, -6);
        due("BAR", BridgeWardens.BAR, 0);
        due("HINT", BridgeWardens.HINT, 1);
        due("GIFT", BridgeWardens.GIFT, 2);
        due("WAIT", BridgeWardens.WAIT, 3);
    }

    private static void newObject() {
        promise = 1;
        BridgeWardens x = new BridgeWardens();
        due("the state", Check.state(x), "0 0 0 0 0 0 0 0 0 3 1 2 5 ");
        due("count(13)", x.count(13), 0);
        due("count(14)", x.count(14), 0);
        due("undo()", x.undo(), NOT_POSSIBLE);
        due("ofBridge(0, 0)", x.ofBridge(0, 0), NO_SUCH);
        due("ofCart(0, 0)", x.ofCart(0, 0), NO_SUCH);
        due("route(0, 7, 0)", x.route(0, 7, 0), NONE);
        due("pass(99)", x.pass(99), 0);
    }

    private static void set() {
        promise = 2;
        BridgeWardens x = new BridgeWardens();
        int[] first = {3, 1, 2, 5};
        int[] least = {0, 0, 0, 1};
        int[] most = {50, 20, 50, 20};
        for (int setting = 0; setting < 4; setting++) {
            due("set below its range", x.set(setting, least[setting] - 1), BAD_VALUE);
            due("set above its range", x.set(setting, most[setting] + 1), BAD_VALUE);
            due("set far below", x.set(setting, LEAST), BAD_VALUE);
            due("set far above", x.set(setting, MOST), BAD_VALUE);
            due("set to the least", x.set(setting, least[setting]), first[setting]);
            due("set to the most", x.set(setting, most[setting]), least[setting]);
            due("count of the setting", x.count(9 + setting), most[setting]);
            due("set to the same", x.set(setting, most[setting]), most[setting]);
        }
        due("set(-1, 1)", x.set(-1, 1), BAD_VALUE);
        due("set(4, 1)", x.set(4, 1), BAD_VALUE);
        due("set(most, 1)", x.set(MOST, 1), BAD_VALUE);
        due("count(14)", x.count(14), 6);
    }

    private static void bridge() {
        promise = 3;
        BridgeWardens x = new BridgeWardens();
        due("bridge(-1, 0, 5)", x.bridge(-1, 0, 5), NO_SUCH);
        due("bridge(0, -1, 5)", x.bridge(0, -1, 5), NO_SUCH);
        due("bridge(8, 0, 5)", x.bridge(8, 0, 5), NO_SUCH);
        due("bridge(0, 8, 5)", x.bridge(0, 8, 5), NO_SUCH);
        due("bridge(8, 8, 1)", x.bridge(8, 8, 1), NO_SUCH);
        due("bridge(7, 7, 5)", x.bridge(7, 7, 5), BAD_VALUE);
        due("bridge(0, 7, 1)", x.bridge(0, 7, 1), BAD_VALUE);
        due("bridge(0, 7, 0)", x.bridge(0, 7, 0), BAD_VALUE);
        due("bridge(0, 7, -5)", x.bridge(0, 7, -5), BAD_VALUE);
        due("bridge(0, 7, 1001)", x.bridge(0, 7, 1001), BAD_VALUE);
        due("count(1)", x.count(1), 0);
        for (int number = 0; number < 12; number++) {
            due("bridge " + number, x.bridge(7, number % 7, number == 0 ? 2 : 1000), number);
        }
        due("a thirteenth", x.bridge(0, 1, 5), TOO_MANY);
        due("a thirteenth, same towns", x.bridge(1, 1, 5), BAD_VALUE);
        due("a thirteenth, no such town", x.bridge(1, 8, 5), NO_SUCH);
        due("count(1)", x.count(1), 12);
        due("ofBridge(0, 2)", x.ofBridge(0, 2), 2);
        due("ofBridge(11, 0)", x.ofBridge(11, 0), 7);
        due("ofBridge(11, 1)", x.ofBridge(11, 1), 4);
    }

    private static void riddles() {
        promise = 3;
        BridgeWardens x = new BridgeWardens();
        long drawn = 1;
        for (int number = 0; number < 12; number++) {
            int size = 1000 - 83 * number;
            x.bridge(0, 1, size);
            drawn = (75 * drawn + 74) % 65537;
            due("riddle " + number, x.ofBridge(number, 3), drawn / 2 % size);
        }
        due("the first riddle", x.ofBridge(0, 3), 74);
        x.set(3, 1);
        x.cart(0, 500);
        for (int times = 0; times < 60; times++) {
            due("guess", x.guess(0, 1, 0), 1);
            due("pass(2)", x.pass(2), 1);
            drawn = (75 * drawn + 74) % 65537;
            due("riddle of bridge 1", x.ofBridge(1, 3), drawn / 2 % 917);
        }
        due("the first riddle stays", x.ofBridge(0, 3), 74);
    }

    private static void cart() {
        promise = 4;
        BridgeWardens x = new BridgeWardens();
        due("cart(-1, 5)", x.cart(-1, 5), NO_SUCH);
        due("cart(8, 5)", x.cart(8, 5), NO_SUCH);
        due("cart(8, -1)", x.cart(8, -1), NO_SUCH);
        due("cart(0, -1)", x.cart(0, -1), BAD_VALUE);
        due("cart(0, 10000)", x.cart(0, 10000), BAD_VALUE);
        for (int number = 0; number < 8; number++) {
            due("cart " + number, x.cart(number, number == 0 ? 0 : 9999), number);
        }
        due("a ninth", x.cart(0, 5), TOO_MANY);
        due("a ninth, coins", x.cart(0, -1), BAD_VALUE);
        due("a ninth, town", x.cart(9, 5), NO_SUCH);
        due("ofCart(7, 0)", x.ofCart(7, 0), 7);
        due("ofCart(7, 1)", x.ofCart(7, 1), 9999);
        due("ofCart(7, 2)", x.ofCart(7, 2), NONE);
        due("count(2)", x.count(2), 8);
        due("count(5)", x.count(5), 69993);
        due("count(7)", x.count(7), 69993);
    }

    private static void guess() {
        promise = 5;
        BridgeWardens x = valley();
        due("guess(-1, 0, 0)", x.guess(-1, 0, 0), NO_SUCH);
        due("guess(4, 0, 0)", x.guess(4, 0, 0), NO_SUCH);
        due("guess(0, -1, 0)", x.guess(0, -1, 0), NO_SUCH);
        due("guess(0, 2, 0)", x.guess(0, 2, 0), NO_SUCH);
        due("guess(0, 2, -1)", x.guess(0, 2, -1), NO_SUCH);
        due("guess(0, 1, -1)", x.guess(0, 1, -1), BAD_VALUE);
        due("guess(0, 1, 10)", x.guess(0, 1, 10), BAD_VALUE);
        due("guess(3, 0, 100)", x.guess(3, 0, 100), BAD_VALUE);
        due("guess(3, 0, 99)", x.guess(3, 0, 99), NOT_POSSIBLE);
        due("guess(0, 1, 9)", x.guess(0, 1, 9), 1);
        due("guess(3, 1, 0)", x.guess(3, 1, 0), 2);
        due("guess(1, 0, 99)", x.guess(1, 0, 99), 1);
        due("guess(2, 1, 9)", x.guess(2, 1, 9), 3);
        due("guess(0, 1, 9)", x.guess(0, 1, 9), NOT_POSSIBLE);
        due("guess(0, 0, 9)", x.guess(0, 0, 9), NOT_POSSIBLE);
        due("guess(0, 1, 10)", x.guess(0, 1, 10), BAD_VALUE);
        due("waits(1, 0)", x.waits(1, 0), 0);
        due("waits(1, 1)", x.waits(1, 1), 3);
        due("waits(1, 2)", x.waits(1, 2), 2);
        due("ofCart(3, 2)", x.ofCart(3, 2), 1);
        due("ofCart(3, 3)", x.ofCart(3, 3), 0);
        due("ofCart(3, 4)", x.ofCart(3, 4), 0);
    }

    private static void leave() {
        promise = 6;
        BridgeWardens x = valley();
        x.guess(0, 1, 9);
        x.guess(1, 1, 8);
        x.guess(2, 0, 1);
        x.guess(3, 1, 7);
        due("leave(-1)", x.leave(-1), NO_SUCH);
        due("leave(4)", x.leave(4), NO_SUCH);
        due("leave(1)", x.leave(1), 1);
        due("leave(1)", x.leave(1), NOT_POSSIBLE);
        due("waits(1, 0)", x.waits(1, 0), 0);
        due("waits(1, 1)", x.waits(1, 1), 3);
        due("waits(1, 2)", x.waits(1, 2), NO_SUCH);
        due("ofBridge(1, 4)", x.ofBridge(1, 4), 2);
        due("ofCart(1, 2)", x.ofCart(1, 2), NONE);
        due("ofCart(1, 3)", x.ofCart(1, 3), NONE);
        due("leave(2)", x.leave(2), 0);
        due("leave(0)", x.leave(0), 1);
        due("guess(0, 1, 2)", x.guess(0, 1, 2), 2);
        due("waits(1, 0)", x.waits(1, 0), 3);
        due("waits(1, 1)", x.waits(1, 1), 0);
        x = valley();
        x.guess(0, 1, 2);
        x.pass(3);
        due("ofCart(0, 4)", x.ofCart(0, 4), 3);
        due("leave(0)", x.leave(0), 1);
        due("ofCart(0, 4)", x.ofCart(0, 4), 0);
        x.guess(0, 1, 2);
        due("ofCart(0, 4) of a new wait", x.ofCart(0, 4), 0);
        due("overIn(0) of a new wait", x.overIn(0), 6);
    }

    private static void hint() {
        promise = 7;
        BridgeWardens x = valley();
        due("hint(-1, 0)", x.hint(-1, 0), NO_SUCH);
        due("hint(4, 0)", x.hint(4, 0), NO_SUCH);
        due("hint(0, -1)", x.hint(0, -1), NO_SUCH);
        due("hint(0, 2)", x.hint(0, 2), NO_SUCH);
        due("hint(3, 0) elsewhere", x.hint(3, 0), NOT_POSSIBLE);
        due("hint(2, 0) without coins", x.hint(2, 0), NOT_POSSIBLE);
        // The riddle of bridge 1 is 4, the middle of 0 to 9.
        due("hint(0, 1)", x.hint(0, 1), 5);
        due("knows(0, 1, 0)", x.knows(0, 1, 0), 0);
        due("knows(0, 1, 1)", x.knows(0, 1, 1), 4);
        due("hint(0, 1)", x.hint(0, 1), 2);
        due("knows(0, 1, 0)", x.knows(0, 1, 0), 3);
        due("hint(0, 1)", x.hint(0, 1), 1);
        due("hint(0, 1) of one that knows", x.hint(0, 1), NOT_POSSIBLE);
        due("knows(0, 1, 0)", x.knows(0, 1, 0), 4);
        due("knows(0, 1, 1)", x.knows(0, 1, 1), 4);
        due("knows(1, 1, 1) of another cart", x.knows(1, 1, 1), 9);
        due("knows(0, 0, 1) of another bridge", x.knows(0, 0, 1), 99);
        due("ofCart(0, 1)", x.ofCart(0, 1), 7);
        due("ofCart(0, 6)", x.ofCart(0, 6), 3);
        due("ofBridge(1, 5)", x.ofBridge(1, 5), 3);
        due("ofBridge(0, 5)", x.ofBridge(0, 5), 0);
        due("count(8)", x.count(8), 3);
        x.guess(0, 1, 4);
        due("hint(0, 0) of one that waits", x.hint(0, 0), 50);
        due("hint(3, 1) from the other town", x.hint(3, 1), 5);
        x.set(1, 20);
        due("hint(1, 1) for all coins", x.hint(1, 1), 5);
        due("hint(1, 1) with none left", x.hint(1, 1), NOT_POSSIBLE);
        due("ofCart(1, 1)", x.ofCart(1, 1), 0);
        x.set(1, 0);
        due("hint(2, 0) for nothing", x.hint(2, 0), 50);
        due("count(8)", x.count(8), 7);
        due("hint(0, 0)", x.hint(0, 0), 25);
        due("ofCart(0, 1)", x.ofCart(0, 1), 6);
    }

    private static void pass() {
        promise = 8;
        BridgeWardens x = valley();
        due("pass(0)", x.pass(0), BAD_VALUE);
        due("pass(-1)", x.pass(-1), BAD_VALUE);
        due("pass(100)", x.pass(100), BAD_VALUE);
        due("pass(most)", x.pass(MOST), BAD_VALUE);
        due("pass(1)", x.pass(1), 0);
        due("pass(99)", x.pass(99), 0);
        due("count(0)", x.count(0), 100);
        for (int times = 0; times < 99; times++) {
            x.pass(99);
        }
        due("count(0)", x.count(0), 9901);
        due("pass(99) beyond 9999", x.pass(99), NOT_POSSIBLE);
        due("pass(100) beyond 9999", x.pass(100), BAD_VALUE);
        due("pass(98) up to 9999", x.pass(98), 0);
        due("count(0)", x.count(0), 9999);
        due("pass(1)", x.pass(1), NOT_POSSIBLE);
        due("pass(0)", x.pass(0), BAD_VALUE);
        x.guess(0, 1, 4);
        due("overIn(0) behind the last hour", x.overIn(0), 6);
        due("would(9, 0) behind the last hour", x.would(9, 0), 1);
        due("count(0)", x.count(0), 9999);
    }

    private static void nearerGuess() {
        promise = 8;
        BridgeWardens x = valley();
        x.guess(2, 1, 9);
        x.guess(1, 1, 1);
        x.guess(0, 1, 4);
        // 4 is the riddle: 9 is 5 away, 1 is 3 away, and the third one is not compared.
        due("next(1)", x.next(1), 1);
        due("pass(1)", x.pass(1), 1);
        due("ofCart(1, 0)", x.ofCart(1, 0), 2);
        due("ofCart(1, 1) pays nothing", x.ofCart(1, 1), 20);
        due("ofCart(1, 2)", x.ofCart(1, 2), NONE);
        due("ofCart(1, 5)", x.ofCart(1, 5), 1);
        due("ofCart(0, 5)", x.ofCart(0, 5), 0);
        due("ofCart(2, 4)", x.ofCart(2, 4), 1);
        due("ofCart(0, 4)", x.ofCart(0, 4), 1);
        due("ofCart(1, 4)", x.ofCart(1, 4), 0);
        due("ofBridge(1, 3) is drawn anew", x.ofBridge(1, 3), 28652 % 10);
        due("ofBridge(1, 6)", x.ofBridge(1, 6), 1);
        due("ofBridge(1, 7)", x.ofBridge(1, 7), 0);
        due("ofBridge(1, 4)", x.ofBridge(1, 4), 2);
        due("count(4)", x.count(4), 1);
        due("count(3)", x.count(3), 5);
        // Now the riddle is 2: 9 is 7 away, 4 is 2 away.
        due("pass(1)", x.pass(1), 1);
        due("ofCart(0, 0)", x.ofCart(0, 0), 2);
        due("ofBridge(1, 3)", x.ofBridge(1, 3), 19022 % 10);
        // The last one has waited for 2 hours, and comes over when it has waited for 5.
        due("pass(3)", x.pass(3), 0);
        due("ofCart(2, 4)", x.ofCart(2, 4), 5);
        due("pass(1)", x.pass(1), 1);
        due("ofCart(2, 0)", x.ofCart(2, 0), 2);
        x = valley();
        x.hint(0, 1);
        x.hint(0, 0);
        x.hint(3, 1);
        x.guess(3, 1, 4);
        x.guess(0, 1, 0);
        due("pass(1) from the other side", x.pass(1), 1);
        due("ofCart(3, 0)", x.ofCart(3, 0), 0);
        due("knows(0, 1, 1) is forgotten", x.knows(0, 1, 1), 9);
        due("knows(3, 1, 1) is forgotten", x.knows(3, 1, 1), 9);
        due("knows(0, 0, 0) is kept", x.knows(0, 0, 0), 50);
        x = valley();
        x.hint(0, 0);
        x.guess(1, 0, 0);
        due("knows(0, 0, 0)", x.knows(0, 0, 0), 50);
        due("pass(6)", x.pass(6), 1);
        due("knows(0, 0, 0) is forgotten", x.knows(0, 0, 0), 0);
        due("knows(0, 0, 1) is forgotten", x.knows(0, 0, 1), 99);
    }

    private static void tiesInAnHour() {
        promise = 8;
        BridgeWardens x = tie(3, 10);
        due("next(1) is the lower number", x.next(1), 0);
        due("pass(1)", x.pass(1), 1);
        due("ofCart(0, 0)", x.ofCart(0, 0), 2);
        due("ofCart(0, 1) pays BAR", x.ofCart(0, 1), 0);
        due("ofCart(0, 6)", x.ofCart(0, 6), 3);
        due("ofCart(1, 1) pays nothing", x.ofCart(1, 1), 10);
        due("ofBridge(1, 5)", x.ofBridge(1, 5), 3);
        due("ofBridge(1, 7)", x.ofBridge(1, 7), 1);
        due("ofBridge(0, 7)", x.ofBridge(0, 7), 0);
        x = tie(2, 3);
        due("next(1) is the one that can pay", x.next(1), 1);
        due("pass(1)", x.pass(1), 1);
        due("ofCart(1, 0)", x.ofCart(1, 0), 2);
        due("ofCart(1, 1)", x.ofCart(1, 1), 0);
        due("ofCart(0, 1)", x.ofCart(0, 1), 2);
        x = tie(2, 2);
        x.cart(2, 9);
        x.guess(2, 1, 4);
        due("next(1) is none", x.next(1), NONE);
        due("pass(30)", x.pass(30), 0);
        due("ofBridge(1, 7) counts each hour", x.ofBridge(1, 7), 30);
        due("ofCart(0, 4)", x.ofCart(0, 4), 30);
        due("ofBridge(1, 5)", x.ofBridge(1, 5), 0);
        x.set(0, 2);
        due("pass(1) with a lower BAR", x.pass(1), 1);
        due("ofCart(0, 0)", x.ofCart(0, 0), 2);
        due("ofBridge(1, 5)", x.ofBridge(1, 5), 2);
        due("ofBridge(1, 7)", x.ofBridge(1, 7), 31);
        x = tie(0, 0);
        x.set(0, 0);
        due("pass(1) with BAR 0", x.pass(1), 1);
        due("ofCart(0, 5)", x.ofCart(0, 5), 1);
        x = new BridgeWardens();
        x.bridge(0, 1, 100);
        x.cart(0, 5);
        x.cart(0, 5);
        x.guess(1, 0, 70);
        x.guess(0, 0, 70);
        due("next(0) of the same guess", x.next(0), 0);
    }

    private static void waitingAlone() {
        promise = 8;
        BridgeWardens x = valley();
        x.guess(0, 1, 0);
        due("pass(5)", x.pass(5), 0);
        due("next(1)", x.next(1), 0);
        due("pass(1)", x.pass(1), 1);
        due("ofCart(0, 1) pays BAR", x.ofCart(0, 1), 7);
        due("ofCart(0, 6)", x.ofCart(0, 6), 3);
        due("ofBridge(1, 5)", x.ofBridge(1, 5), 3);
        x.guess(2, 1, 0);
        x.set(3, 20);
        due("pass(20)", x.pass(20), 0);
        due("pass(1)", x.pass(1), 1);
        due("ofCart(2, 1) pays all it has", x.ofCart(2, 1), 0);
        due("ofBridge(1, 5)", x.ofBridge(1, 5), 3);
        x.set(3, 1);
        x.set(0, 15);
        x.guess(0, 1, 0);
        due("pass(2)", x.pass(2), 1);
        due("ofCart(0, 1) pays all it has", x.ofCart(0, 1), 0);
        due("ofCart(0, 6)", x.ofCart(0, 6), 10);
        due("ofBridge(1, 5)", x.ofBridge(1, 5), 10);
        x = tie(2, 2);
        x.pass(9);
        x.leave(0);
        due("next(1) counts hours beside others", x.next(1), 1);
    }

    private static void gifts() {
        promise = 8;
        BridgeWardens x = valley();
        x.guess(0, 1, 4);
        x.guess(1, 1, 5);
        due("pass(1)", x.pass(1), 1);
        due("no gift out of an empty till", x.ofCart(0, 7), 0);
        due("ofCart(0, 1)", x.ofCart(0, 1), 10);
        x = valley();
        x.hint(1, 1);
        x.guess(0, 1, 4);
        x.guess(1, 1, 5);
        x.pass(1);
        due("all that is in the till", x.ofCart(0, 7), 1);
        due("ofCart(0, 1)", x.ofCart(0, 1), 11);
        due("ofBridge(1, 5)", x.ofBridge(1, 5), 0);
        x = valley();
        x.guess(1, 1, 4);
        x.guess(0, 1, 4);
        x.pass(1);
        due("a gift out of what was paid", x.ofCart(0, 7), 2);
        due("ofCart(0, 1)", x.ofCart(0, 1), 9);
        due("ofCart(0, 6)", x.ofCart(0, 6), 3);
        due("ofBridge(1, 5)", x.ofBridge(1, 5), 1);
        x = valley();
        x.set(2, 50);
        x.guess(1, 1, 4);
        x.pass(6);
        due("a gift out of what one alone paid", x.ofCart(1, 7), 3);
        due("ofCart(1, 1)", x.ofCart(1, 1), 20);
        x = valley();
        x.set(2, 0);
        x.guess(1, 1, 4);
        x.pass(6);
        due("GIFT 0", x.ofCart(1, 7), 0);
        x = valley();
        x.hint(1, 1);
        x.guess(1, 1, 3);
        x.pass(6);
        due("no gift for another guess", x.ofCart(1, 7), 0);
    }

    /** All 12 bridges and 8 carts are there; the carts come to wait at the last bridges. */
    private static void fullHouse() {
        promise = 8;
        BridgeWardens x = new BridgeWardens();
        for (int number = 0; number < 12; number++) {
            x.bridge(number % 7, 7, 2 + number);
        }
        for (int number = 0; number < 8; number++) {
            x.cart(7, 10 * number);
        }
        for (int number = 0; number < 8; number++) {
            due("guess", x.guess(number, 11 - number / 2, 0), 1 + number % 2);
        }
        // Both guesses are as near at each of the four bridges: carts 2, 4 and 6 come over, and cart 1, as cart 0 has
        // no coins.
        int staying = 1 | 8 | 32 | 128;
        due("would(1, 0)", x.would(1, 0), 4);
        due("would(1, 1)", x.would(1, 1), 12);
        due("would(1, 3)", x.would(1, 3), staying);
        due("pass(1)", x.pass(1), 4);
        due("count(3)", x.count(3), staying);
        due("count(5)", x.count(5), 280 - x.count(6));
        due("why(7)", x.why(7), 2);
        due("overIn(7)", x.overIn(7), 5);
        due("route(0, 6, 1)", x.route(0, 6, 1), 0);
        due("route(6, 0, 1)", x.route(6, 0, 1), 6);
        due("next(11)", x.next(11), NONE);
        due("ofBridge(8, 7)", x.ofBridge(8, 7), 1);
        due("count(4)", x.count(4), 4);
    }

    private static void manyBridgesInAnHour() {
        promise = 8;
        BridgeWardens x = valley();
        x.guess(3, 1, 4);
        x.guess(2, 1, 0);
        x.guess(1, 0, 50);
        x.guess(0, 0, 74);
        due("pass(1)", x.pass(1), 2);
        due("bridge 0 draws first", x.ofBridge(0, 3), 28652 % 100);
        due("bridge 1 draws next", x.ofBridge(1, 3), 19022 % 10);
        due("count(4)", x.count(4), 2);
        due("count(3)", x.count(3), 6);
        due("ofCart(0, 0)", x.ofCart(0, 0), 1);
        due("ofCart(3, 0)", x.ofCart(3, 0), 0);
    }

    private static void write() {
        promise = 9;
        BridgeWardens x = valley();
        due("write(-1)", x.write(-1), NO_SUCH);
        due("write(4)", x.write(4), NO_SUCH);
        Check.type(x, "rest");
        due("write(8)", x.write(8), NO_SUCH);
        due("the pad", Check.pad(x), "rest");
        int changes = x.count(14);
        due("write(2)", x.write(2), 6);
        due("the pad", Check.pad(x), "c2@0*0");
        due("write(3)", x.write(3), 7);
        due("the pad", Check.pad(x), "c3@2*40");
        x.hint(0, 1);
        x.hint(0, 0);
        x.hint(0, 0);
        x.undo();
        due("write(0)", x.write(0), 20);
        due("the pad", Check.pad(x), "c0@0*8;0:50-99;1:0-4");
        due("count(14)", x.count(14), changes - 1);
        x = new BridgeWardens();
        for (int number = 0; number < 12; number++) {
            x.bridge(7, 0, 1000);
        }
        for (int number = 0; number < 8; number++) {
            x.cart(7, 9999);
        }
        x.set(1, 0);
        due("write(7)", x.write(7), 9);
        due("the pad", Check.pad(x), "c7@7*9999");
        StringBuilder note = new StringBuilder("c7@7*9999");
        for (int number = 0; number < 12; number++) {
            x.hint(7, number);
            note.append(';').append(number).append(':').append(x.knows(7, number, 0));
            note.append('-').append(x.knows(7, number, 1));
        }
        due("write(7)", x.write(7), 80);
        due("the pad", Check.pad(x), note.substring(0, 80));
        int[] coins = {0, 1, 9, 10, 11, 100, 1000, 9990};
        x = new BridgeWardens();
        for (int number = 0; number < 8; number++) {
            x.cart(0, coins[number]);
            x.write(number);
            due("the pad", Check.pad(x), "c" + number + "@0*" + coins[number]);
        }
        x = new BridgeWardens();
        x.bridge(0, 1, 2);
        x.cart(0, 1);
        x.hint(0, 0);
        due("write(0) of a known riddle", x.write(0), 12);
        due("the pad", Check.pad(x), "c0@0*0;0:0-0");
    }

    private static void ofBridge() {
        promise = 10;
        BridgeWardens x = valley();
        x.bridge(6, 3, 7);
        due("ofBridge(-1, 0)", x.ofBridge(-1, 0), NO_SUCH);
        due("ofBridge(3, 0)", x.ofBridge(3, 0), NO_SUCH);
        due("ofBridge(3, 8)", x.ofBridge(3, 8), NO_SUCH);
        due("ofBridge(0, -1)", x.ofBridge(0, -1), BAD_VALUE);
        due("ofBridge(0, 8)", x.ofBridge(0, 8), BAD_VALUE);
        due("ofBridge(2, 0) as it was told", x.ofBridge(2, 0), 6);
        due("ofBridge(2, 1) as it was told", x.ofBridge(2, 1), 3);
        due("ofBridge(2, 2)", x.ofBridge(2, 2), 7);
        due("ofBridge(2, 3)", x.ofBridge(2, 3), 28652 % 7);
        x.set(0, 1);
        x.guess(1, 1, 3);
        x.guess(0, 1, 5);
        x.guess(3, 1, 5);
        x.pass(1);
        int[] parts = {0, 2, 10, 38044 / 2 % 10, 2, 1, 1, 1};
        for (int what = 0; what < 8; what++) {
            due("ofBridge(1, " + what + ")", x.ofBridge(1, what), parts[what]);
        }
        int[] others = {0, 1, 100, 74, 0, 0, 0, 0};
        for (int what = 0; what < 8; what++) {
            due("ofBridge(0, " + what + ")", x.ofBridge(0, what), others[what]);
        }
    }

    private static void ofCart() {
        promise = 11;
        BridgeWardens x = valley();
        due("ofCart(-1, 0)", x.ofCart(-1, 0), NO_SUCH);
        due("ofCart(4, 0)", x.ofCart(4, 0), NO_SUCH);
        due("ofCart(4, 9)", x.ofCart(4, 9), NO_SUCH);
        due("ofCart(0, -1)", x.ofCart(0, -1), BAD_VALUE);
        due("ofCart(0, 8)", x.ofCart(0, 8), BAD_VALUE);
        x.hint(0, 1);
        x.guess(0, 1, 4);
        x.pass(6);
        x.guess(0, 1, 9);
        x.pass(2);
        // It paid a hint and BAR, got GIFT, and came over once; now it waits at the other town.
        int[] parts = {2, 8, 1, 9, 2, 1, 4, 2};
        for (int what = 0; what < 8; what++) {
            due("ofCart(0, " + what + ")", x.ofCart(0, what), parts[what]);
        }
        int[] others = {0, 20, NONE, NONE, 0, 0, 0, 0};
        for (int what = 0; what < 8; what++) {
            due("ofCart(1, " + what + ")", x.ofCart(1, what), others[what]);
        }
    }

    private static void knows() {
        promise = 12;
        BridgeWardens x = valley();
        due("knows(-1, 0, 0)", x.knows(-1, 0, 0), NO_SUCH);
        due("knows(4, 0, 0)", x.knows(4, 0, 0), NO_SUCH);
        due("knows(0, -1, 0)", x.knows(0, -1, 0), NO_SUCH);
        due("knows(0, 2, 0)", x.knows(0, 2, 0), NO_SUCH);
        due("knows(0, 2, 2)", x.knows(0, 2, 2), NO_SUCH);
        due("knows(0, 0, -1)", x.knows(0, 0, -1), BAD_VALUE);
        due("knows(0, 0, 2)", x.knows(0, 0, 2), BAD_VALUE);
        due("knows(3, 0, 0) elsewhere", x.knows(3, 0, 0), 0);
        due("knows(3, 0, 1) elsewhere", x.knows(3, 0, 1), 99);
        x.bridge(4, 5, 1000);
        due("knows(0, 2, 1) of a later bridge", x.knows(0, 2, 1), 999);
        x.cart(4, 7);
        due("knows(4, 1, 1) of a later cart", x.knows(4, 1, 1), 9);
        due("knows(4, 2, 1) of a later cart", x.knows(4, 2, 1), 999);
        x.hint(1, 0);
        due("knows(1, 0, 0)", x.knows(1, 0, 0), 50);
        due("knows(1, 0, 1)", x.knows(1, 0, 1), 99);
    }

    private static void waits() {
        promise = 13;
        BridgeWardens x = valley();
        due("waits(-1, 0)", x.waits(-1, 0), NO_SUCH);
        due("waits(2, 0)", x.waits(2, 0), NO_SUCH);
        due("waits(0, 0)", x.waits(0, 0), NO_SUCH);
        x.guess(2, 1, 0);
        x.guess(1, 0, 0);
        x.guess(0, 1, 0);
        x.guess(3, 1, 5);
        int[] line = {2, 0, 3};
        for (int rank = 0; rank < 3; rank++) {
            due("waits(1, " + rank + ")", x.waits(1, rank), line[rank]);
        }
        due("waits(1, -1)", x.waits(1, -1), NO_SUCH);
        due("waits(1, 3)", x.waits(1, 3), NO_SUCH);
        due("waits(1, least)", x.waits(1, LEAST), NO_SUCH);
        due("waits(0, 0)", x.waits(0, 0), 1);
        due("waits(0, 1)", x.waits(0, 1), NO_SUCH);
        x = new BridgeWardens();
        x.bridge(0, 1, 2);
        for (int cart = 0; cart < 8; cart++) {
            x.cart(0, 0);
        }
        for (int cart = 7; cart >= 0; cart--) {
            due("guess(" + cart + ", 0, 0)", x.guess(cart, 0, 0), 8 - cart);
        }
        due("waits(0, 7)", x.waits(0, 7), 0);
        due("waits(0, 8)", x.waits(0, 8), NO_SUCH);
    }

    private static void sign() {
        promise = 14;
        BridgeWardens x = new BridgeWardens();
        due("sign(0)", x.sign(0), NO_SUCH);
        Check.type(x, "!~A");
        due("sign(0)", x.sign(0), 33);
        due("sign(1)", x.sign(1), 126);
        due("sign(2)", x.sign(2), 65);
        due("sign(3)", x.sign(3), NO_SUCH);
        due("sign(-1)", x.sign(-1), NO_SUCH);
        due("sign(80)", x.sign(80), NO_SUCH);
        due("sign(most)", x.sign(MOST), NO_SUCH);
        x.wipe();
        due("sign(0) of what was wiped", x.sign(0), NO_SUCH);
    }

    private static void count() {
        promise = 15;
        BridgeWardens x = valley();
        due("count(-1)", x.count(-1), BAD_VALUE);
        due("count(15)", x.count(15), BAD_VALUE);
        due("count(most)", x.count(MOST), BAD_VALUE);
        x.set(0, 4);
        x.set(1, 2);
        x.set(2, 6);
        x.set(3, 7);
        x.hint(0, 0);
        x.guess(3, 1, 4);
        x.guess(1, 1, 4);
        x.guess(2, 0, 0);
        x.pass(1);
        Check.type(x, "text");
        // A hint of 2 into one till; 4 paid into the other one, all of which was the gift.
        int[] counts = {1, 2, 4, 12, 1, 68, 2, 70, 1, 4, 2, 6, 7, 4, 6};
        for (int what = 0; what < 15; what++) {
            due("count(" + what + ")", x.count(what), counts[what]);
        }
    }

    private static void next() {
        promise = 16;
        BridgeWardens x = valley();
        due("next(-1)", x.next(-1), NO_SUCH);
        due("next(2)", x.next(2), NO_SUCH);
        due("next(1) without carts", x.next(1), NONE);
        x.guess(2, 1, 9);
        due("next(1) too early", x.next(1), NONE);
        x.pass(4);
        due("next(1) too early", x.next(1), NONE);
        x.pass(1);
        due("next(1) in time", x.next(1), 2);
        x.guess(3, 1, 8);
        due("next(1) of two", x.next(1), 3);
        x.guess(0, 1, 4);
        due("next(1) of three", x.next(1), 3);
        due("next(0)", x.next(0), NONE);
        int changes = x.count(14);
        x.next(1);
        due("count(14)", x.count(14), changes);
        due("next(1) of two that can pay", tie(3, 3).next(1), 0);
        due("next(1) if the lower one cannot", tie(2, 3).next(1), 1);
        due("next(1) if none can", tie(2, 2).next(1), NONE);
    }

    private static void why() {
        promise = 17;
        BridgeWardens x = valley();
        due("why(-1)", x.why(-1), NO_SUCH);
        due("why(4)", x.why(4), NO_SUCH);
        due("why(0) not waiting", x.why(0), 1);
        x.guess(0, 1, 0);
        due("why(0) alone", x.why(0), 2);
        x.pass(5);
        due("why(0) alone for long", x.why(0), 0);
        x.guess(1, 1, 5);
        x.guess(2, 1, 4);
        due("why(0) farther", x.why(0), 4);
        due("why(1) nearer", x.why(1), 0);
        due("why(2) behind", x.why(2), 3);
        x = tie(5, 5);
        due("why(0) of both as near", x.why(0), 0);
        due("why(1) of both as near", x.why(1), 5);
        x = tie(2, 5);
        due("why(0) that cannot pay", x.why(0), 5);
        due("why(1) that pays", x.why(1), 0);
        x = tie(2, 2);
        x.cart(0, 50);
        x.guess(2, 1, 4);
        due("why(0) if none can pay", x.why(0), 6);
        due("why(1) if none can pay", x.why(1), 6);
        due("why(2) behind", x.why(2), 3);
    }

    private static void overIn() {
        promise = 18;
        BridgeWardens x = valley();
        due("overIn(-1)", x.overIn(-1), NO_SUCH);
        due("overIn(4)", x.overIn(4), NO_SUCH);
        due("overIn(0)", x.overIn(0), NOT_POSSIBLE);
        x.guess(2, 1, 9);
        x.guess(1, 1, 1);
        x.guess(0, 1, 4);
        String before = Check.state(x);
        int changes = x.count(14);
        // As in nearerGuess(): cart 1, then cart 0, and cart 2 when it has waited for 5 hours.
        due("overIn(1)", x.overIn(1), 1);
        due("overIn(0)", x.overIn(0), 2);
        due("overIn(2)", x.overIn(2), 6);
        due("the state stays", Check.state(x), before);
        due("count(14) stays", x.count(14), changes);
        x.pass(2);
        due("overIn(2)", x.overIn(2), 4);
        due("overIn(0) of one that is over", x.overIn(0), NOT_POSSIBLE);
        x.set(3, 20);
        due("overIn(2)", x.overIn(2), 19);
        x = tie(2, 2);
        due("overIn(0) never", x.overIn(0), NONE);
        x.cart(0, 3);
        x.guess(2, 1, 4);
        due("overIn(2) never", x.overIn(2), NONE);
    }

    private static void wins() {
        promise = 19;
        BridgeWardens x = valley();
        due("wins(-1, 0, 0, 0)", x.wins(-1, 0, 0, 0), NO_SUCH);
        due("wins(4, 0, 0, 0)", x.wins(4, 0, 0, 0), NO_SUCH);
        due("wins(0, -1, 0, 0)", x.wins(0, -1, 0, 0), NO_SUCH);
        due("wins(0, 2, 0, -1)", x.wins(0, 2, 0, -1), NO_SUCH);
        due("wins(0, 1, -1, 0)", x.wins(0, 1, -1, 0), BAD_VALUE);
        due("wins(0, 1, 10, 0)", x.wins(0, 1, 10, 0), BAD_VALUE);
        due("wins(0, 1, 0, -1)", x.wins(0, 1, 0, -1), BAD_VALUE);
        due("wins(0, 1, 0, 10)", x.wins(0, 1, 0, 10), BAD_VALUE);
        due("wins(0, 1, 3, 6)", x.wins(0, 1, 3, 6), 5);
        due("wins(0, 1, 6, 3)", x.wins(0, 1, 6, 3), 5);
        due("wins(0, 1, 3, 5)", x.wins(0, 1, 3, 5), 4);
        due("wins(0, 1, 5, 3)", x.wins(0, 1, 5, 3), 5);
        due("wins(0, 1, 9, 0)", x.wins(0, 1, 9, 0), 5);
        due("wins(0, 1, 4, 4)", x.wins(0, 1, 4, 4), 0);
        winsOfAllPairs(x);
        x.hint(0, 1);
        winsOfAllPairs(x);
        due("wins(0, 1, 9, 0) of 0 to 4", x.wins(0, 1, 9, 0), 0);
        x.hint(0, 1);
        winsOfAllPairs(x);
        x.hint(0, 1);
        winsOfAllPairs(x);
        due("wins(3, 0, 99, 0) elsewhere", x.wins(3, 0, 99, 0), 50);
    }

    private static void winsOfAllPairs(BridgeWardens x) {
        int lowest = x.knows(0, 1, 0);
        int highest = x.knows(0, 1, 1);
        for (int guess = 0; guess < 10; guess++) {
            for (int other = 0; other < 10; other++) {
                due("wins(0, 1, " + guess + ", " + other + ")", x.wins(0, 1, guess, other),
                    won(lowest, highest, guess, other));
            }
        }
    }

    /** How many numbers of a range are nearer to the first guess, counted one by one. */
    private static int won(int lowest, int highest, int guess, int other) {
        int won = 0;
        for (int number = lowest; number <= highest; number++) {
            won += Math.abs(number - guess) < Math.abs(number - other) ? 1 : 0;
        }
        return won;
    }

    private static void bestGuess() {
        promise = 20;
        BridgeWardens x = valley();
        due("bestGuess(-1, 0, 0, 0)", x.bestGuess(-1, 0, 0, 0), NO_SUCH);
        due("bestGuess(4, 0, 0, 0)", x.bestGuess(4, 0, 0, 0), NO_SUCH);
        due("bestGuess(0, -1, 0, 0)", x.bestGuess(0, -1, 0, 0), NO_SUCH);
        due("bestGuess(0, 2, 0, 2)", x.bestGuess(0, 2, 0, 2), NO_SUCH);
        due("bestGuess(0, 1, -1, 0)", x.bestGuess(0, 1, -1, 0), BAD_VALUE);
        due("bestGuess(0, 1, 10, 0)", x.bestGuess(0, 1, 10, 0), BAD_VALUE);
        due("bestGuess(0, 1, 0, -1)", x.bestGuess(0, 1, 0, -1), BAD_VALUE);
        due("bestGuess(0, 1, 0, 2)", x.bestGuess(0, 1, 0, 2), BAD_VALUE);
        due("bestGuess(0, 1, 0, 0)", x.bestGuess(0, 1, 0, 0), 1);
        due("bestGuess(0, 1, 0, 1)", x.bestGuess(0, 1, 0, 1), 9);
        due("bestGuess(0, 1, 9, 0)", x.bestGuess(0, 1, 9, 0), 8);
        due("bestGuess(0, 1, 9, 1)", x.bestGuess(0, 1, 9, 1), 9);
        due("bestGuess(0, 1, 4, 0)", x.bestGuess(0, 1, 4, 0), 5);
        due("bestGuess(0, 1, 5, 0)", x.bestGuess(0, 1, 5, 0), 4);
        due("bestGuess(0, 1, 5, 1)", x.bestGuess(0, 1, 5, 1), 5);
        for (int hints = 0; hints < 4; hints++) {
            int lowest = x.knows(0, 1, 0);
            int highest = x.knows(0, 1, 1);
            for (int other = 0; other < 10; other++) {
                int best = 0;
                int most = won(lowest, highest, 0, other);
                for (int guess = 9; guess >= 0; guess--) {
                    int won = won(lowest, highest, guess, other);
                    best = won >= most ? guess : best;
                    most = Math.max(won, most);
                }
                due("bestGuess(0, 1, " + other + ", 0)", x.bestGuess(0, 1, other, 0), best);
                due("bestGuess(0, 1, " + other + ", 1)", x.bestGuess(0, 1, other, 1), most);
            }
            x.hint(0, 1);
        }
        due("bestGuess against the riddle", x.bestGuess(0, 1, 4, 0), 0);
        due("bestGuess against the riddle", x.bestGuess(0, 1, 4, 1), 0);
        due("bestGuess(0, 1, 9, 0) is the least", x.bestGuess(0, 1, 9, 0), 0);
        due("bestGuess(0, 1, 0, 0) is the least", x.bestGuess(0, 1, 0, 0), 1);
    }

    private static void route() {
        promise = 21;
        BridgeWardens x = new BridgeWardens();
        due("route(-1, 0, 0)", x.route(-1, 0, 0), NO_SUCH);
        due("route(0, -1, 0)", x.route(0, -1, 0), NO_SUCH);
        due("route(8, 0, 0)", x.route(8, 0, 0), NO_SUCH);
        due("route(0, 8, 2)", x.route(0, 8, 2), NO_SUCH);
        due("route(0, 0, -1)", x.route(0, 0, -1), BAD_VALUE);
        due("route(0, 1, 2)", x.route(0, 1, 2), BAD_VALUE);
        due("route(0, 0, 0)", x.route(0, 0, 0), 0);
        due("route(0, 0, 1)", x.route(0, 0, 1), NONE);
        due("route(0, 1, 0)", x.route(0, 1, 0), NONE);
        due("route(0, 1, 1)", x.route(0, 1, 1), NONE);
        for (int town = 6; town >= 0; town--) {
            x.bridge(town, town + 1, 5);
        }
        due("route(0, 7, 0)", x.route(0, 7, 0), 7);
        due("route(0, 7, 1)", x.route(0, 7, 1), 6);
        due("route(7, 0, 0)", x.route(7, 0, 0), 7);
        due("route(7, 0, 1)", x.route(7, 0, 1), 0);
        due("route(3, 4, 0)", x.route(3, 4, 0), 1);
        x.bridge(3, 0, 5);
        x.bridge(0, 3, 5);
        due("route(0, 7, 0) by the shortcut", x.route(0, 7, 0), 5);
        due("route(0, 7, 1) by the lower one", x.route(0, 7, 1), 7);
        due("route(1, 3, 1)", x.route(1, 3, 1), 5);
        due("route(3, 1, 1) of two ways", x.route(3, 1, 1), 4);
        due("route(3, 1, 0)", x.route(3, 1, 0), 2);
        due("route(3, 0, 1)", x.route(3, 0, 1), 7);
        due("route(4, 4, 1)", x.route(4, 4, 1), NONE);
    }

    private static void would() {
        promise = 22;
        BridgeWardens x = valley();
        due("would(0, 0)", x.would(0, 0), BAD_VALUE);
        due("would(100, 0)", x.would(100, 0), BAD_VALUE);
        due("would(-1, 9)", x.would(-1, 9), BAD_VALUE);
        due("would(1, -1)", x.would(1, -1), BAD_VALUE);
        due("would(1, 4)", x.would(1, 4), BAD_VALUE);
        x.hint(1, 1);
        x.guess(3, 1, 4);
        x.guess(1, 1, 4);
        x.guess(2, 0, 0);
        String before = Check.state(x);
        int changes = x.count(14);
        // Cart 1 pays 3 and gets 2; then cart 3 waits alone, and so does cart 2, until both have waited for 5 hours.
        due("would(1, 0)", x.would(1, 0), 1);
        due("would(1, 1)", x.would(1, 1), 3);
        due("would(1, 2)", x.would(1, 2), 2);
        due("would(1, 3)", x.would(1, 3), 12);
        due("would(5, 0)", x.would(5, 0), 1);
        due("would(6, 0)", x.would(6, 0), 3);
        due("would(6, 1)", x.would(6, 1), 6);
        due("would(6, 3)", x.would(6, 3), 0);
        due("would(99, 0)", x.would(99, 0), 3);
        due("the state stays", Check.state(x), before);
        due("count(14) stays", x.count(14), changes);
        x.pass(1);
        due("would(1, 1) counts what comes", x.would(1, 1), 0);
        due("would(1, 2) counts what comes", x.would(1, 2), 0);
        due("would(5, 1)", x.would(5, 1), 3);
    }

    private static void put() {
        promise = 23;
        BridgeWardens x = new BridgeWardens();
        due("put(0)", x.put(0), BAD_VALUE);
        due("put(32)", x.put(32), BAD_VALUE);
        due("put(127)", x.put(127), BAD_VALUE);
        due("put(33)", x.put(33), 1);
        due("put(126)", x.put(126), 2);
        due("put(-1)", x.put(-1L), BAD_VALUE);
        due("put of a least long", x.put(Long.MIN_VALUE), BAD_VALUE);
        due("put with a gap", x.put(0x410041L), BAD_VALUE);
        due("put with a gap at the end", x.put(0x4100L), BAD_VALUE);
        due("put with a high bit", x.put(0x0100000000000041L), BAD_VALUE);
        due("put with a bad first one", x.put(0x2041424344454647L), BAD_VALUE);
        due("put with a high code", x.put(0xC141424344454647L), BAD_VALUE);
        due("put(AB)", x.put(0x4142L), 4);
        due("put of eight", x.put(0x4142434445464748L), 12);
        due("the pad", Check.pad(x), "!~ABABCDEFGH");
        for (int times = 0; times < 8; times++) {
            x.put(0x4142434445464748L);
        }
        due("count(13)", x.count(13), 76);
        due("put of eight more", x.put(0x4142434445464748L), TOO_MANY);
        due("put of five more", x.put(0x4142434445L), TOO_MANY);
        due("put of bad ones more", x.put(0x2042434445L), BAD_VALUE);
        due("put of four more", x.put(0x41424344L), 80);
        due("put of one more", x.put(0x41), TOO_MANY);
        due("count(13)", x.count(13), 80);
        due("count(14)", x.count(14), 0);
    }

    private static void wipe() {
        promise = 24;
        BridgeWardens x = new BridgeWardens();
        due("wipe()", x.wipe(), 0);
        Check.type(x, "abcdefghijk");
        due("wipe()", x.wipe(), 11);
        due("wipe()", x.wipe(), 0);
        due("count(13)", x.count(13), 0);
        due("count(14)", x.count(14), 0);
        due("put(A)", x.put(0x41), 1);
    }

    private static void fault() {
        promise = 25;
        String[] right = {"b01*5", "b98*0", "b00*9999", "c9*0", "g0:0=0", "g9:9999=9999", "h3:12", "l7", "p0", "p9999",
            "p10;p1", "b01*2;c0*10;g0:0=1;h0:0;l0;p99", "l0;l0;l0;l0;l0;l0;l0;l0;l0;l0;l0;l0;l0;l0;l0;l0;l0;l0;l0;l0"};
        for (String text : right) {
            due("fault() of " + text, faultOf(text), NONE);
        }
    }

    private static int faultOf(String text) {
        BridgeWardens x = new BridgeWardens();
        Check.type(x, text);
        return x.fault();
    }

    private static void faultPlaces() {
        promise = 25;
        String[] texts = {"", "b", "b0", "b01", "b01*", "x", "B01*5", "ba1*5", "b0a*5", "b01:5", "b01*x",
            "b01*01", "b01*12345", "b01*9999;", "b01*99999", "c", "c*", "c1:5", "c1*", "c12*5", "c1*5,", "c1*05",
            "g1", "g1*", "g1:", "g1:=5", "g1:2", "g1:2:", "g1:2=", "g1:02=1", "g1:12345=1", "g1:0=00", "g1:1=1=1",
            "h", "h1", "h1:", "h1;", "h1:5:", "l", "la", "l12", "l1;", "l1;;", "l1;x", "p", "p;", "p00", "p100000",
            ";", "p1;p", "p5l0", "p1;c1*1;g1:1", "p1;c1*1;g1:1="};
        int[] places = {0, 1, 2, 3, 4, 0, 0, 1, 2, 3, 4,
            5, 8, 9, 8, 1, 1, 2, 3, 2, 4, 4,
            2, 2, 3, 3, 4, 4, 5, 4, 7, 6, 6,
            1, 2, 3, 2, 4, 1, 1, 2, 3, 3, 3, 1, 1, 2, 5,
            0, 4, 2, 12, 13};
        for (int i = 0; i < texts.length; i++) {
            due("fault() of " + texts[i], faultOf(texts[i]), places[i]);
        }
        BridgeWardens x = valley();
        x.write(0);
        due("fault() of a note", x.fault(), 2);
    }

    private static void carryOut() {
        promise = 26;
        BridgeWardens x = new BridgeWardens();
        due("carryOut() of nothing", x.carryOut(), BAD_TEXT);
        due("count(14)", x.count(14), 0);
        Check.type(x, "b01*100;c0*10;c0*20;h0:0;g0:0=74;g1:0=20;p1;l1;p100");
        due("carryOut()", x.carryOut(), 8);
        due("count(13)", x.count(13), 0);
        due("count(14) of one change", x.count(14), 1);
        due("count(0)", x.count(0), 1);
        due("ofCart(0, 0)", x.ofCart(0, 0), 1);
        due("ofCart(0, 7)", x.ofCart(0, 7), 1);
        due("ofCart(1, 3)", x.ofCart(1, 3), NONE);
        due("count(8)", x.count(8), 1);
        String before = Check.state(x);
        Check.type(x, "b08*5;c0*1");
        due("carryOut() up to an error", x.carryOut(), 0);
        due("the state stays", Check.state(x), before);
        due("count(14) all the same", x.count(14), 2);
        due("the pad is empty", x.count(13), 0);
        Check.type(x, "c1*5;g0:5=0;c1*6");
        due("carryOut() up to an error", x.carryOut(), 1);
        due("count(2)", x.count(2), 3);
        due("undo()", x.undo(), 2);
        due("the state is back", Check.state(x), before);
        due("the pad stays empty", x.count(13), 0);
        Check.type(x, "c1*5;c");
        due("carryOut() with a fault", x.carryOut(), BAD_TEXT);
        due("the pad stays", Check.pad(x), "c1*5;c");
        due("count(2)", x.count(2), 2);
        due("count(14)", x.count(14), 2);
        carryOutOfOneOrder("b01*2", 1);
        carryOutOfOneOrder("b11*2", 0);
        carryOutOfOneOrder("b19*2", 0);
        carryOutOfOneOrder("b10*1001", 0);
        carryOutOfOneOrder("c8*1", 0);
        carryOutOfOneOrder("c7*9999", 1);
        carryOutOfOneOrder("g0:12=0", 0);
        carryOutOfOneOrder("g9:0=0", 0);
        carryOutOfOneOrder("g0:1=10", 0);
        carryOutOfOneOrder("g0:1=9", 1);
        carryOutOfOneOrder("h2:1", 0);
        carryOutOfOneOrder("h1:1", 1);
        carryOutOfOneOrder("l0", 0);
        carryOutOfOneOrder("p0", 0);
        carryOutOfOneOrder("p99", 1);
        x = new BridgeWardens();
        x.cart(0, 1);
        x.bridge(0, 1, 5);
        StringBuilder text = new StringBuilder("g0:0=4");
        for (int times = 0; times < 7; times++) {
            text.append(";l0;g0:0=4");
        }
        Check.type(x, text.append(";l0").toString());
        due("count(13)", x.count(13), 79);
        due("carryOut() of a long text", x.carryOut(), 16);
    }

    private static void carryOutOfOneOrder(String order, int carried) {
        BridgeWardens x = valley();
        Check.type(x, order);
        due("carryOut() of " + order, x.carryOut(), carried);
    }

    private static void undo() {
        promise = 27;
        for (int undone = 0; undone <= 6; undone++) {
            BridgeWardens x = changed(8);
            x.put(0x41);
            for (int times = 1; times <= undone; times++) {
                due("undo()", x.undo(), 6 - times);
            }
            due("the state behind " + undone, Check.state(x), Check.state(changed(8 - undone)));
            due("the pad stays", Check.pad(x), "A");
        }
        BridgeWardens x = changed(8);
        for (int times = 0; times < 6; times++) {
            x.undo();
        }
        due("undo() of none", x.undo(), NOT_POSSIBLE);
        due("the state stays", Check.state(x), Check.state(changed(2)));
        due("a change again", change(x, 2) < 0 ? 1 : 0, 0);
        due("count(14)", x.count(14), 1);
        due("undo()", x.undo(), 0);
        due("the state", Check.state(x), Check.state(changed(2)));
        undoOfTheSame();
        undoOfRiddles();
        undoOfEachChange();
        undoOfAnotherWorld();
    }

    /** The valley behind the first changes. */
    private static BridgeWardens changed(int changes) {
        BridgeWardens x = valley();
        for (int step = 0; step < changes; step++) {
            due("change " + step, change(x, step) < 0 ? 1 : 0, 0);
            due("count(14)", x.count(14), 6);
        }
        return x;
    }

    /** Each change alone, from a state in which nothing is as it was first. */
    private static void undoOfEachChange() {
        for (int step = 0; step < 8; step++) {
            BridgeWardens x = valley();
            x.set(0, 1);
            x.set(3, 6);
            x.hint(0, 1);
            x.guess(0, 1, 4);
            x.guess(3, 1, 0);
            x.pass(2);
            x.leave(3);
            x.guess(3, 1, 2);
            x.pass(1);
            x.guess(0, 1, 8);
            x.hint(1, 1);
            String before = Check.state(x);
            due("count(14)", x.count(14), 6);
            due("change " + step, otherChange(x, step) < 0 ? 1 : 0, 0);
            due("the change shows", Check.state(x).equals(before) ? 1 : 0, 0);
            due("undo()", x.undo(), 5);
            due("the state before change " + step, Check.state(x), before);
        }
    }

    private static int otherChange(BridgeWardens x, int step) {
        switch (step) {
            case 0:
                return x.set(0, 9);
            case 1:
                return x.bridge(3, 4, 20);
            case 2:
                return x.cart(1, 5);
            case 3:
                return x.hint(1, 0);
            case 4:
                return x.guess(1, 1, 4);
            case 5:
                return x.pass(99);
            case 6:
                return x.leave(0);
            default:
                Check.type(x, "p9;c7*7;b67*7;h0:0");
                return x.carryOut();
        }
    }

    /** What was saved comes back also where other bridges and carts stand in its place. */
    private static void undoOfAnotherWorld() {
        BridgeWardens x = tie(2, 2);
        x.hint(0, 0);
        x.pass(3);
        String first = Check.state(x);
        x = new BridgeWardens();
        x.save(1);
        x.bridge(5, 6, 1000);
        x.bridge(6, 7, 33);
        x.bridge(7, 0, 44);
        x.cart(5, 77);
        x.set(3, 1);
        x.hint(0, 0);
        x.guess(0, 0, 3);
        x.pass(2);
        String second = Check.state(x);
        x.save(0);
        x.restore(1);
        x.bridge(0, 1, 100);
        x.bridge(0, 2, 10);
        x.cart(0, 2);
        x.cart(0, 2);
        x.guess(1, 1, 5);
        x.guess(0, 1, 3);
        x.hint(0, 0);
        x.pass(3);
        due("the state of a new one", Check.state(x), first);
        x.restore(0);
        due("the state that was saved", Check.state(x), second);
        x.undo();
        due("the state before", Check.state(x), first);
    }

    private static int change(BridgeWardens x, int step) {
        switch (step) {
            case 0:
                return x.set(0, 9);
            case 1:
                return x.bridge(3, 4, 20);
            case 2:
                return x.cart(1, 5);
            case 3:
                return x.hint(1, 1);
            case 4:
                return x.guess(1, 1, 4);
            case 5:
                return x.guess(0, 1, 8);
            case 6:
                return x.pass(1);
            default:
                return x.leave(0);
        }
    }

    private static void undoOfTheSame() {
        BridgeWardens x = new BridgeWardens();
        x.set(0, 3);
        due("count(14) if nothing is different", x.count(14), 1);
        x.set(0, 51);
        x.undo();
        due("count(14)", x.count(14), 0);
        x.set(0, 7);
        x.save(0);
        x.set(0, 8);
        x.undo();
        due("count(9)", x.count(9), 7);
        x.undo();
        due("count(9)", x.count(9), 3);
        due("the slot stays", x.restore(0), 0);
        due("count(9)", x.count(9), 7);
    }

    private static void undoOfRiddles() {
        BridgeWardens x = new BridgeWardens();
        x.bridge(0, 1, 100);
        x.undo();
        due("bridge(0, 1, 1000)", x.bridge(0, 1, 1000), 0);
        due("the same riddle is drawn", x.ofBridge(0, 3), 74);
        x.cart(0, 5);
        x.guess(0, 0, 1);
        x.pass(7);
        x.undo();
        x.undo();
        x.undo();
        x.cart(3, 5);
        due("a cart that is new again", x.ofCart(0, 5), 0);
        due("a cart that is new again", x.ofCart(0, 6), 0);
    }

    private static void save() {
        promise = 28;
        BridgeWardens x = valley();
        due("save(-1)", x.save(-1), BAD_VALUE);
        due("save(2)", x.save(2), BAD_VALUE);
        x.undo();
        due("save(0)", x.save(0), 3);
        due("count(14) is no change", x.count(14), 5);
        x.cart(5, 5);
        x.cart(6, 6);
        due("save(1)", x.save(1), 5);
        due("restore(0)", x.restore(0), 3);
        due("restore(1)", x.restore(1), 5);
        due("save(0) again", x.save(0), 5);
        x.cart(7, 7);
        due("restore(0)", x.restore(0), 5);
        due("save() of a new one", new BridgeWardens().save(1), 0);
    }

    private static void restore() {
        promise = 29;
        BridgeWardens x = valley();
        due("restore(-1)", x.restore(-1), BAD_VALUE);
        due("restore(2)", x.restore(2), BAD_VALUE);
        due("restore(0)", x.restore(0), NOT_POSSIBLE);
        x.save(1);
        due("restore(0)", x.restore(0), NOT_POSSIBLE);
        lateValley(x);
        x.put(0x41);
        String before = Check.state(x);
        due("restore(1)", x.restore(1), 4);
        due("the state that was saved", Check.state(x), Check.state(valley()));
        due("the pad stays", Check.pad(x), "A");
        due("count(14)", x.count(14), 6);
        due("undo()", x.undo(), 5);
        due("the state before", Check.state(x), before);
        restoreKeepsTheSlot();
    }

    private static void lateValley(BridgeWardens x) {
        x.hint(0, 1);
        x.guess(0, 1, 5);
        x.guess(1, 1, 4);
        x.set(2, 9);
        x.pass(3);
    }

    private static void restoreKeepsTheSlot() {
        BridgeWardens x = valley();
        x.save(1);
        lateValley(x);
        due("restore(1)", x.restore(1), 4);
        lateValley(x);
        x.cart(0, 3);
        due("restore(1) again", x.restore(1), 4);
        due("the state that was saved", Check.state(x), Check.state(valley()));
        due("count(14)", x.count(14), 6);
        x.bridge(0, 1, 1000);
        due("riddles go on as they were saved", x.ofBridge(2, 3), 28652 % 1000);
    }

    /** Each call that is refused, with its state, its pad and its history as they were. */
    private static void errorsChangeNothing() {
        promise = 0;
        BridgeWardens x = valley();
        x.guess(0, 1, 3);
        Check.type(x, "c1*");
        x.undo();
        String before = Check.state(x);
        int[] answers = {x.set(0, 99), x.bridge(0, 0, 5), x.cart(9, 5), x.guess(0, 0, 100), x.leave(0), x.hint(2, 1),
            x.pass(0), x.write(7), x.carryOut(), x.save(5), x.restore(0), x.put(0), x.next(9), x.overIn(0)};
        int[] errors = {BAD_VALUE, BAD_VALUE, NO_SUCH, BAD_VALUE, NOT_POSSIBLE, NOT_POSSIBLE,
            BAD_VALUE, NO_SUCH, BAD_TEXT, BAD_VALUE, NOT_POSSIBLE, BAD_VALUE, NO_SUCH, NOT_POSSIBLE};
        for (int i = 0; i < answers.length; i++) {
            due("error " + i, answers[i], errors[i]);
        }
        due("the state", Check.state(x), before);
        due("the pad", Check.pad(x), "c1*");
        due("count(14)", x.count(14), 5);
    }
}
