/**
 * The sentences of the document that name an edge, one by one, but for those of an hour, of texts and of the history: the
 * last number that is taken and the first one that is not, nothing there yet, all full, and the order of the errors.
 */
public final class EdgesTest {
    private static final int NO_SUCH = -1, BAD_VALUE = -2, TOO_MANY = -4, NOT_POSSIBLE = -5, NONE = -6;
    private static final int LEAST = Integer.MIN_VALUE;
    private static final int MOST = Integer.MAX_VALUE;
    /** Numbers that are below 0 or far above all that there is. */
    private static final int[] FAR = {LEAST, LEAST + 1, -65537, -256, -2, -1, 65536, 1 << 30, MOST - 1, MOST};

    private static final Check check = new Check("EdgesTest");

    public static void main(String[] args) {
        settings();
        settingNumbers();
        previousValue();
        townsOfBridges();
        townsOfCarts();
        townsOfRoutes();
        twelveBridges();
        bridgeNumbers();
        bridgesThatAreNotThere();
        unlikeTowns();
        severalBetweenTheSameTwo();
        sizes();
        tillAtFirst();
        riddlesOfASize();
        riddlesForAllBridgesTogether();
        riddlesThatAreNotDrawn();
        riddlesBehindCrossings();
        eightCarts();
        cartNumbers();
        cartsThatAreNotThere();
        coins();
        moreCoinsThanOneCameWith();
        cartAtFirst();
        guesses();
        guessBehindThoseThatWait();
        guessOfOneThatWaits();
        guessElsewhere();
        leaving();
        check.end();
    }

    private static void due(String call, long got, long want) {
        check.due(call, got, want);
    }

    private static void due(String what, String got, String want) {
        check.due(what, got, want);
    }

    private static int[] leastSettings() {
        return new int[] {0, 0, 0, 1};
    }

    private static int[] mostSettings() {
        return new int[] {50, 20, 50, 20};
    }

    /** So many bridges and carts, all between town 0 and town 1, of 10 numbers and with 10 coins. */
    private static BridgeWardens world(int bridges, int carts) {
        BridgeWardens x = new BridgeWardens();
        for (int number = 0; number < bridges; number++) {
            x.bridge(0, 1, 10);
        }
        for (int number = 0; number < carts; number++) {
            x.cart(0, 10);
        }
        return x;
    }

    // ---- settings

    private static void settings() {
        check.sentence("BAR (0 to 50; 3), HINT (0 to 20; 1), GIFT (0 to 50; 2), WAIT (1 to 20; 5)");
        int[] first = {3, 1, 2, 5};
        for (int setting = 0; setting < 4; setting++) {
            BridgeWardens x = new BridgeWardens();
            int least = leastSettings()[setting];
            int most = mostSettings()[setting];
            due("the first value of " + setting, x.count(9 + setting), first[setting]);
            due("below the least of " + setting, x.set(setting, least - 1), BAD_VALUE);
            due("above the most of " + setting, x.set(setting, most + 1), BAD_VALUE);
            due("the first value of " + setting + " stays", x.count(9 + setting), first[setting]);
            for (int value = least; value <= most; value++) {
                due("a value of " + setting, x.set(setting, value), value == least ? first[setting] : value - 1);
                due("it is set", x.count(9 + setting), value);
            }
            for (int far : FAR) {
                due("set(" + setting + ", " + far + ")", x.set(setting, far), BAD_VALUE);
            }
            for (int other = 0; other < 4; other++) {
                due("the setting " + other, x.count(9 + other), other == setting ? most : first[other]);
            }
        }
    }

    private static void settingNumbers() {
        check.sentence("BAD_VALUE if there is no such setting");
        BridgeWardens x = new BridgeWardens();
        due("set(4, 1)", x.set(4, 1), BAD_VALUE);
        for (int far : FAR) {
            due("set(" + far + ", 1)", x.set(far, 1), BAD_VALUE);
        }
        due("set(0, 1)", x.set(0, 1), 3);
        due("set(3, 1)", x.set(3, 1), 5);
    }

    private static void previousValue() {
        check.sentence("Returns the previous value");
        BridgeWardens x = new BridgeWardens();
        due("set(0, 3) to what it was", x.set(0, 3), 3);
        due("set(0, 51)", x.set(0, 51), BAD_VALUE);
        due("set(0, 0) behind a refused one", x.set(0, 0), 3);
        due("set(0, 50)", x.set(0, 50), 0);
        x.undo();
        due("set(0, 7) behind an undone one", x.set(0, 7), 0);
    }

    // ---- towns and bridges

    private static void townsOfBridges() {
        check.sentence("There are 8 towns, 0 to 7: bridge");
        BridgeWardens x = new BridgeWardens();
        due("bridge(8, 0, 5)", x.bridge(8, 0, 5), NO_SUCH);
        due("bridge(0, 8, 5)", x.bridge(0, 8, 5), NO_SUCH);
        for (int far : FAR) {
            due("bridge(" + far + ", 0, 5)", x.bridge(far, 0, 5), NO_SUCH);
            due("bridge(0, " + far + ", 5)", x.bridge(0, far, 5), NO_SUCH);
        }
        for (int town = 0; town < 8; town++) {
            due("bridge from " + town, x.bridge(town, 7 - town, 5), town);
            due("its town", x.ofBridge(town, 0), town);
            due("its other town", x.ofBridge(town, 1), 7 - town);
        }
        check.sentence("NO_SUCH if there is no such town; BAD_VALUE if both towns are the same, or size is out of range");
        due("bridge(8, 8, 5)", x.bridge(8, 8, 5), NO_SUCH);
        due("bridge(-1, -1, 5)", x.bridge(-1, -1, 5), NO_SUCH);
        due("bridge(8, 0, 1)", x.bridge(8, 0, 1), NO_SUCH);
        due("bridge(0, -1, 1001)", x.bridge(0, -1, 1001), NO_SUCH);
        check.sentence("TOO_MANY if there are 12 bridges, behind NO_SUCH and BAD_VALUE");
        x = world(12, 0);
        due("bridge(0, 8, 1)", x.bridge(0, 8, 1), NO_SUCH);
        due("bridge(-1, 0, 5)", x.bridge(-1, 0, 5), NO_SUCH);
        due("bridge(0, 0, 5)", x.bridge(0, 0, 5), BAD_VALUE);
        due("bridge(0, 1, 1)", x.bridge(0, 1, 1), BAD_VALUE);
        due("bridge(0, 1, 1001)", x.bridge(0, 1, 1001), BAD_VALUE);
        due("bridge(0, 1, 2)", x.bridge(0, 1, 2), TOO_MANY);
    }

    private static void townsOfCarts() {
        check.sentence("There are 8 towns, 0 to 7: cart");
        BridgeWardens x = new BridgeWardens();
        due("cart(8, 0)", x.cart(8, 0), NO_SUCH);
        for (int far : FAR) {
            due("cart(" + far + ", 0)", x.cart(far, 0), NO_SUCH);
        }
        for (int town = 0; town < 8; town++) {
            due("cart in " + town, x.cart(town, 0), town);
            due("its town", x.ofCart(town, 0), town);
        }
        check.sentence("NO_SUCH if there is no such town; BAD_VALUE if coins is out of range; TOO_MANY if there are 8 carts");
        due("cart(8, -1)", x.cart(8, -1), NO_SUCH);
        due("cart(-1, 10000)", x.cart(-1, 10000), NO_SUCH);
        due("cart(8, 0)", x.cart(8, 0), NO_SUCH);
        due("cart(0, -1)", x.cart(0, -1), BAD_VALUE);
        due("cart(0, 10000)", x.cart(0, 10000), BAD_VALUE);
        due("cart(0, 9999)", x.cart(0, 9999), TOO_MANY);
    }

    private static void townsOfRoutes() {
        check.sentence("There are 8 towns, 0 to 7: route");
        BridgeWardens x = world(1, 0);
        due("route(8, 0, 0)", x.route(8, 0, 0), NO_SUCH);
        due("route(0, 8, 0)", x.route(0, 8, 0), NO_SUCH);
        due("route(8, 8, 0)", x.route(8, 8, 0), NO_SUCH);
        for (int far : FAR) {
            due("route(" + far + ", 0, 0)", x.route(far, 0, 0), NO_SUCH);
            due("route(0, " + far + ", 1)", x.route(0, far, 1), NO_SUCH);
            due("route of one and the same " + far, x.route(far, far, 1), NO_SUCH);
            due("route(0, 1, " + far + ")", x.route(0, 1, far), BAD_VALUE);
            due("route(8, 0, " + far + ")", x.route(8, 0, far), NO_SUCH);
        }
        due("route(7, 7, 0)", x.route(7, 7, 0), 0);
        due("route(0, 0, 0)", x.route(0, 0, 0), 0);
        due("route(0, 1, 2)", x.route(0, 1, 2), BAD_VALUE);
    }

    private static void twelveBridges() {
        check.sentence("up to 12 bridges, numbered in the order in which they came");
        BridgeWardens x = new BridgeWardens();
        due("count(1) of none", x.count(1), 0);
        for (int number = 0; number < 12; number++) {
            due("bridge " + number, x.bridge(number % 8, (number + 1) % 8, 2 + number), number);
            due("count(1)", x.count(1), number + 1);
        }
        due("a thirteenth", x.bridge(0, 1, 5), TOO_MANY);
        due("count(1)", x.count(1), 12);
        for (int number = 0; number < 12; number++) {
            due("the town of " + number, x.ofBridge(number, 0), number % 8);
            due("the size of " + number, x.ofBridge(number, 2), 2 + number);
        }
        due("undo()", x.undo(), 5);
        due("a twelfth again", x.bridge(0, 1, 5), 11);
        due("a thirteenth again", x.bridge(0, 1, 5), TOO_MANY);
    }

    private static void bridgeNumbers() {
        check.sentence("Everything is numbered from 0; NO_SUCH if there is no such bridge: the last one and the one behind it");
        for (int bridges = 1; bridges <= 12; bridges++) {
            BridgeWardens x = world(bridges, 1);
            int last = bridges - 1;
            due("ofBridge(last)", x.ofBridge(last, 2), 10);
            due("ofBridge(behind)", x.ofBridge(bridges, 2), NO_SUCH);
            due("knows(last)", x.knows(0, last, 1), 9);
            due("knows(behind)", x.knows(0, bridges, 1), NO_SUCH);
            due("next(last)", x.next(last), NONE);
            due("next(behind)", x.next(bridges), NO_SUCH);
            due("wins(last)", x.wins(0, last, 0, 9), 5);
            due("wins(behind)", x.wins(0, bridges, 0, 9), NO_SUCH);
            due("bestGuess(last)", x.bestGuess(0, last, 0, 0), 1);
            due("bestGuess(behind)", x.bestGuess(0, bridges, 0, 0), NO_SUCH);
            due("hint(behind)", x.hint(0, bridges), NO_SUCH);
            due("hint(last)", x.hint(0, last), 5);
            due("guess(behind)", x.guess(0, bridges, 0), NO_SUCH);
            due("guess(last)", x.guess(0, last, 0), 1);
            due("waits(last)", x.waits(last, 0), 0);
            due("waits(behind)", x.waits(bridges, 0), NO_SUCH);
            due("ofCart(0, 2)", x.ofCart(0, 2), last);
            due("leave(0)", x.leave(0), last);
        }
    }

    private static void bridgesThatAreNotThere() {
        check.sentence("NO_SUCH if there is no such bridge: none yet, or far away");
        BridgeWardens x = world(0, 1);
        everyBridgeIsMissing(x, 0);
        x = world(12, 1);
        for (int far : FAR) {
            everyBridgeIsMissing(x, far);
        }
    }

    /** With wrong numbers behind it too, as NO_SUCH is checked first. */
    private static void everyBridgeIsMissing(BridgeWardens x, int bridge) {
        due("guess at " + bridge, x.guess(0, bridge, 0), NO_SUCH);
        due("guess at " + bridge, x.guess(0, bridge, -1), NO_SUCH);
        due("hint about " + bridge, x.hint(0, bridge), NO_SUCH);
        due("ofBridge " + bridge, x.ofBridge(bridge, 0), NO_SUCH);
        due("ofBridge " + bridge, x.ofBridge(bridge, 8), NO_SUCH);
        due("knows " + bridge, x.knows(0, bridge, 0), NO_SUCH);
        due("knows " + bridge, x.knows(0, bridge, 2), NO_SUCH);
        due("waits at " + bridge, x.waits(bridge, 0), NO_SUCH);
        due("next over " + bridge, x.next(bridge), NO_SUCH);
        due("wins at " + bridge, x.wins(0, bridge, 0, 1), NO_SUCH);
        due("wins at " + bridge, x.wins(0, bridge, -1, 1), NO_SUCH);
        due("wins at " + bridge, x.wins(0, bridge, 0, 1000), NO_SUCH);
        due("bestGuess at " + bridge, x.bestGuess(0, bridge, 0, 0), NO_SUCH);
        due("bestGuess at " + bridge, x.bestGuess(0, bridge, -1, 0), NO_SUCH);
        due("bestGuess at " + bridge, x.bestGuess(0, bridge, 0, 2), NO_SUCH);
    }

    private static void unlikeTowns() {
        check.sentence("BAD_VALUE if both towns are the same");
        BridgeWardens x = new BridgeWardens();
        for (int town = 0; town < 8; town++) {
            due("bridge from " + town + " to itself", x.bridge(town, town, 5), BAD_VALUE);
        }
        due("count(1)", x.count(1), 0);
        due("bridge(0, 1, 5)", x.bridge(0, 1, 5), 0);
    }

    private static void severalBetweenTheSameTwo() {
        check.sentence("each between two unlike towns (perhaps several between the same two)");
        BridgeWardens x = new BridgeWardens();
        for (int number = 0; number < 12; number++) {
            due("bridge " + number, number % 2 == 0 ? x.bridge(3, 4, 5) : x.bridge(4, 3, 5), number);
        }
        due("ofBridge(11, 0)", x.ofBridge(11, 0), 4);
        due("ofBridge(10, 0)", x.ofBridge(10, 0), 3);
        due("route(3, 4, 1)", x.route(3, 4, 1), 0);
        due("route(4, 3, 1)", x.route(4, 3, 1), 0);
        x.cart(4, 5);
        due("guess(0, 10, 4)", x.guess(0, 10, 4), 1);
        due("ofBridge(11, 4)", x.ofBridge(11, 4), 0);
    }

    private static void sizes() {
        check.sentence("the bridge having a size from 2 to 1000");
        BridgeWardens x = new BridgeWardens();
        due("bridge(0, 1, 0)", x.bridge(0, 1, 0), BAD_VALUE);
        due("bridge(0, 1, 1)", x.bridge(0, 1, 1), BAD_VALUE);
        due("bridge(0, 1, 1001)", x.bridge(0, 1, 1001), BAD_VALUE);
        for (int far : FAR) {
            due("bridge(0, 1, " + far + ")", x.bridge(0, 1, far), BAD_VALUE);
        }
        due("count(1)", x.count(1), 0);
        due("bridge(0, 1, 2)", x.bridge(0, 1, 2), 0);
        due("bridge(0, 1, 3)", x.bridge(0, 1, 3), 1);
        due("bridge(0, 1, 999)", x.bridge(0, 1, 999), 2);
        due("bridge(0, 1, 1000)", x.bridge(0, 1, 1000), 3);
        due("ofBridge(0, 2)", x.ofBridge(0, 2), 2);
        due("ofBridge(3, 2)", x.ofBridge(3, 2), 1000);
    }

    private static void tillAtFirst() {
        check.sentence("The warden of a bridge has a till (0 coins at first)");
        BridgeWardens x = world(1, 1);
        due("ofBridge(0, 5)", x.ofBridge(0, 5), 0);
        x.hint(0, 0);
        due("ofBridge(0, 5)", x.ofBridge(0, 5), 1);
        x.bridge(0, 1, 10);
        due("ofBridge(1, 5) of a later one", x.ofBridge(1, 5), 0);
        for (int what = 4; what < 8; what++) {
            due("ofBridge(1, " + what + ")", x.ofBridge(1, what), 0);
        }
    }

    private static void riddlesOfASize() {
        check.sentence("a riddle: a number 0 to size - 1; the riddle is x / 2 left over by the size");
        // The first number that is drawn is 149, and half of it 74.
        int[] sizes = {2, 3, 37, 38, 73, 74, 75, 76, 148, 149, 1000};
        int[] riddles = {0, 2, 0, 36, 1, 0, 74, 74, 74, 74, 74};
        for (int i = 0; i < sizes.length; i++) {
            BridgeWardens x = new BridgeWardens();
            x.bridge(0, 1, sizes[i]);
            due("the first riddle of size " + sizes[i], x.ofBridge(0, 3), riddles[i]);
        }
    }

    private static void riddlesForAllBridgesTogether() {
        check.sentence("x (1 at first, for all bridges together) becomes (75 * x + 74) left over by 65537");
        // 149, 11249, 843749 - 12 * 65537 = 57305, 4297949 - 65 * 65537 = 38044, 2853374 - 43 * 65537 = 35283, 24819
        int[] halves = {74, 5624, 28652, 19022, 17641, 12409};
        BridgeWardens x = new BridgeWardens();
        for (int number = 0; number < halves.length; number++) {
            x.bridge(number, number + 1, 1000);
            due("riddle " + number, x.ofBridge(number, 3), halves[number] % 1000);
        }
        x = new BridgeWardens();
        for (int number = 0; number < halves.length; number++) {
            x.bridge(number, number + 1, 2 + number);
            due("riddle " + number + " of a small size", x.ofBridge(number, 3), halves[number] % (2 + number));
        }
        x = new BridgeWardens();
        x.bridge(0, 1, 1000);
        due("the first riddle of another object", x.ofBridge(0, 3), 74);
    }

    private static void riddlesThatAreNotDrawn() {
        check.sentence("It is drawn when a bridge comes, and each time that a cart comes over it: not at another time");
        BridgeWardens x = new BridgeWardens();
        x.bridge(0, 1, 1000);
        x.bridge(0, 9, 1000);
        x.bridge(2, 2, 1000);
        x.bridge(0, 1, 1001);
        x.cart(0, 10);
        x.cart(0, 10);
        x.hint(0, 0);
        x.guess(0, 0, 0);
        x.leave(0);
        x.guess(0, 0, 0);
        x.pass(5);
        x.overIn(0);
        x.would(99, 0);
        x.next(0);
        x.save(0);
        x.write(0);
        due("the first riddle", x.ofBridge(0, 3), 74);
        due("knows(0, 0, 1) as it was", x.knows(0, 0, 1), 499);
        due("bridge(0, 1, 1000)", x.bridge(0, 1, 1000), 1);
        due("the second number that is drawn", x.ofBridge(1, 3), 624);
        due("the riddle of another bridge", x.ofBridge(0, 3), 74);
        due("knows(0, 0, 1) as another bridge comes", x.knows(0, 0, 1), 499);
    }

    private static void riddlesBehindCrossings() {
        check.sentence("becomes (75 * x + 74) left over by 65537: as far as 512 calls go");
        BridgeWardens x = new BridgeWardens();
        long drawn = 1;
        for (int number = 0; number < 8; number++) {
            x.bridge(0, 1, 1000 - number);
            x.cart(0, 0);
            drawn = (75 * drawn + 74) % 65537;
        }
        x.set(3, 1);
        for (int round = 0; round < 20; round++) {
            for (int number = 0; number < 8; number++) {
                x.guess(number, number, round);
            }
            due("pass(2)", x.pass(2), 8);
            for (int number = 0; number < 8; number++) {
                drawn = (75 * drawn + 74) % 65537;
                due("riddle " + number, x.ofBridge(number, 3), drawn / 2 % (1000 - number));
            }
        }
    }

    // ---- carts

    private static void eightCarts() {
        check.sentence("There are up to 8 carts, numbered in the order in which they came");
        BridgeWardens x = new BridgeWardens();
        due("count(2) of none", x.count(2), 0);
        for (int number = 0; number < 8; number++) {
            due("cart " + number, x.cart(number, 100 + number), number);
            due("count(2)", x.count(2), number + 1);
        }
        due("a ninth", x.cart(0, 5), TOO_MANY);
        due("count(2)", x.count(2), 8);
        due("count(7)", x.count(7), 828);
        for (int number = 0; number < 8; number++) {
            due("the coins of " + number, x.ofCart(number, 1), 100 + number);
        }
        due("undo()", x.undo(), 5);
        due("an eighth again", x.cart(0, 5), 7);
        due("a ninth again", x.cart(0, 5), TOO_MANY);
    }

    private static void cartNumbers() {
        check.sentence("Everything is numbered from 0; NO_SUCH if there is no such cart: the last one and the one behind it");
        for (int carts = 1; carts <= 8; carts++) {
            BridgeWardens x = world(1, carts);
            int last = carts - 1;
            due("ofCart(last)", x.ofCart(last, 1), 10);
            due("ofCart(behind)", x.ofCart(carts, 1), NO_SUCH);
            due("knows(last)", x.knows(last, 0, 1), 9);
            due("knows(behind)", x.knows(carts, 0, 1), NO_SUCH);
            due("wins(last)", x.wins(last, 0, 0, 9), 5);
            due("wins(behind)", x.wins(carts, 0, 0, 9), NO_SUCH);
            due("bestGuess(last)", x.bestGuess(last, 0, 0, 0), 1);
            due("bestGuess(behind)", x.bestGuess(carts, 0, 0, 0), NO_SUCH);
            due("write(behind)", x.write(carts), NO_SUCH);
            due("write(last)", x.write(last), 7);
            due("hint(behind)", x.hint(carts, 0), NO_SUCH);
            due("hint(last)", x.hint(last, 0), 5);
            due("why(last)", x.why(last), 1);
            due("why(behind)", x.why(carts), NO_SUCH);
            due("overIn(last)", x.overIn(last), NOT_POSSIBLE);
            due("overIn(behind)", x.overIn(carts), NO_SUCH);
            due("leave(last)", x.leave(last), NOT_POSSIBLE);
            due("leave(behind)", x.leave(carts), NO_SUCH);
            due("guess(behind)", x.guess(carts, 0, 0), NO_SUCH);
            due("guess(last)", x.guess(last, 0, 0), 1);
            due("count(3)", x.count(3), 1 << last);
        }
    }

    private static void cartsThatAreNotThere() {
        check.sentence("NO_SUCH if there is no such cart: none yet, or far away");
        BridgeWardens x = world(1, 0);
        everyCartIsMissing(x, 0);
        x = world(1, 8);
        for (int far : FAR) {
            everyCartIsMissing(x, far);
        }
    }

    /** With wrong numbers behind it too, as NO_SUCH is checked first. */
    private static void everyCartIsMissing(BridgeWardens x, int cart) {
        due("guess of " + cart, x.guess(cart, 0, 0), NO_SUCH);
        due("guess of " + cart, x.guess(cart, 0, 10), NO_SUCH);
        due("guess of " + cart, x.guess(cart, 12, 0), NO_SUCH);
        due("leave of " + cart, x.leave(cart), NO_SUCH);
        due("hint for " + cart, x.hint(cart, 0), NO_SUCH);
        due("hint for " + cart, x.hint(cart, 12), NO_SUCH);
        due("write of " + cart, x.write(cart), NO_SUCH);
        due("ofCart " + cart, x.ofCart(cart, 0), NO_SUCH);
        due("ofCart " + cart, x.ofCart(cart, 2), NO_SUCH);
        due("ofCart " + cart, x.ofCart(cart, 8), NO_SUCH);
        due("knows of " + cart, x.knows(cart, 0, 0), NO_SUCH);
        due("knows of " + cart, x.knows(cart, 0, -1), NO_SUCH);
        due("why of " + cart, x.why(cart), NO_SUCH);
        due("overIn of " + cart, x.overIn(cart), NO_SUCH);
        due("wins of " + cart, x.wins(cart, 0, 0, 1), NO_SUCH);
        due("wins of " + cart, x.wins(cart, 0, 10, 1), NO_SUCH);
        due("wins of " + cart, x.wins(cart, 0, 0, -1), NO_SUCH);
        due("bestGuess of " + cart, x.bestGuess(cart, 0, 0, 0), NO_SUCH);
        due("bestGuess of " + cart, x.bestGuess(cart, 0, 10, 0), NO_SUCH);
        due("bestGuess of " + cart, x.bestGuess(cart, 0, 0, -1), NO_SUCH);
    }

    private static void coins() {
        check.sentence("with coins (0 to 9999 as it comes)");
        BridgeWardens x = new BridgeWardens();
        due("cart(0, -1)", x.cart(0, -1), BAD_VALUE);
        due("cart(0, 10000)", x.cart(0, 10000), BAD_VALUE);
        for (int far : FAR) {
            due("cart(0, " + far + ")", x.cart(0, far), BAD_VALUE);
        }
        due("count(2)", x.count(2), 0);
        due("count(7)", x.count(7), 0);
        int[] coins = {0, 1, 9998, 9999};
        for (int number = 0; number < coins.length; number++) {
            due("cart(0, " + coins[number] + ")", x.cart(0, coins[number]), number);
            due("ofCart(" + number + ", 1)", x.ofCart(number, 1), coins[number]);
        }
        due("count(5)", x.count(5), 19998);
        due("count(7)", x.count(7), 19998);
    }

    private static void moreCoinsThanOneCameWith() {
        check.sentence("with coins (0 to 9999 as it comes): a gift may bring more");
        BridgeWardens x = new BridgeWardens();
        x.bridge(0, 1, 10);
        x.cart(0, 9999);
        x.cart(0, 9999);
        x.set(1, 20);
        x.set(2, 50);
        x.hint(1, 0);
        x.hint(1, 0);
        x.guess(0, 0, 4);
        x.guess(1, 0, 3);
        due("pass(1)", x.pass(1), 1);
        due("ofCart(0, 7)", x.ofCart(0, 7), 40);
        due("ofCart(0, 1)", x.ofCart(0, 1), 10039);
        due("count(5)", x.count(5), 19998);
        due("count(7)", x.count(7), 19998);
        due("write(0)", x.write(0), 10);
        due("the pad", Check.pad(x), "c0@1*10039");
    }

    private static void cartAtFirst() {
        check.sentence("it waits at a bridge of that town with a guess, or at none (at first)");
        BridgeWardens x = world(2, 1);
        int[] parts = {0, 10, NONE, NONE, 0, 0, 0, 0};
        for (int what = 0; what < 8; what++) {
            due("ofCart(0, " + what + ")", x.ofCart(0, what), parts[what]);
        }
        due("why(0)", x.why(0), 1);
        check.sentence("Of each bridge it knows a range in which the riddle is: from 0 to size - 1 at first");
        x.hint(0, 1);
        x.bridge(5, 6, 2);
        x.bridge(5, 6, 1000);
        x.cart(7, 0);
        int[] sizes = {10, 10, 2, 1000};
        for (int bridge = 0; bridge < 4; bridge++) {
            due("knows(1, " + bridge + ", 0)", x.knows(1, bridge, 0), 0);
            due("knows(1, " + bridge + ", 1)", x.knows(1, bridge, 1), sizes[bridge] - 1);
        }
        due("knows(0, 2, 1) of an earlier cart", x.knows(0, 2, 1), 1);
        due("knows(0, 3, 1) of an earlier cart", x.knows(0, 3, 1), 999);
    }

    // ---- waiting

    private static void guesses() {
        check.sentence("guess: 0 to size - 1; BAD_VALUE if guess is out of range");
        int[] sizes = {2, 3, 10, 999, 1000};
        for (int size : sizes) {
            BridgeWardens x = new BridgeWardens();
            x.bridge(0, 1, 1000);
            x.bridge(0, 1, size);
            x.bridge(0, 1, 1000);
            x.cart(0, 0);
            x.cart(1, 0);
            due("guess " + size, x.guess(0, 1, size), BAD_VALUE);
            for (int far : FAR) {
                due("guess " + far, x.guess(0, 1, far), BAD_VALUE);
            }
            due("ofBridge(1, 4)", x.ofBridge(1, 4), 0);
            due("guess 0", x.guess(0, 1, 0), 1);
            due("guess " + (size - 1), x.guess(1, 1, size - 1), 2);
            due("ofCart(0, 3)", x.ofCart(0, 3), 0);
            due("ofCart(1, 3)", x.ofCart(1, 3), size - 1);
        }
    }

    private static void guessBehindThoseThatWait() {
        check.sentence("behind those that wait there; it has waited for 0 hours; Returns how many wait there then");
        BridgeWardens x = world(2, 8);
        int[] order = {5, 2, 7, 0, 1, 6, 4, 3};
        for (int rank = 0; rank < 8; rank++) {
            due("guess", x.guess(order[rank], 0, 9), rank + 1);
            due("ofBridge(0, 4)", x.ofBridge(0, 4), rank + 1);
            due("ofCart(4)", x.ofCart(order[rank], 4), 0);
        }
        due("count(3) of all", x.count(3), 255);
        for (int rank = 0; rank < 8; rank++) {
            due("waits(0, " + rank + ")", x.waits(0, rank), order[rank]);
        }
        due("waits(0, 8)", x.waits(0, 8), NO_SUCH);
        due("leave(5)", x.leave(5), 0);
        due("guess(5, 0, 9) again", x.guess(5, 0, 9), 8);
        due("waits(0, 0)", x.waits(0, 0), 2);
        due("waits(0, 7)", x.waits(0, 7), 5);
    }

    private static void guessOfOneThatWaits() {
        check.sentence("NOT_POSSIBLE if the cart waits");
        BridgeWardens x = world(2, 1);
        x.guess(0, 1, 3);
        x.pass(2);
        due("guess(0, 1, 4) again", x.guess(0, 1, 4), NOT_POSSIBLE);
        due("guess(0, 0, 4) elsewhere", x.guess(0, 0, 4), NOT_POSSIBLE);
        due("guess(0, 0, 10) out of range", x.guess(0, 0, 10), BAD_VALUE);
        due("ofCart(0, 2)", x.ofCart(0, 2), 1);
        due("ofCart(0, 3)", x.ofCart(0, 3), 3);
        due("ofCart(0, 4)", x.ofCart(0, 4), 2);
        x.leave(0);
        due("guess(0, 0, 9)", x.guess(0, 0, 9), 1);
    }

    private static void guessElsewhere() {
        check.sentence("NOT_POSSIBLE if the bridge is not at its town");
        BridgeWardens x = new BridgeWardens();
        x.bridge(2, 5, 10);
        for (int town = 0; town < 8; town++) {
            x.cart(town, 0);
        }
        int waiting = 0;
        for (int town = 0; town < 8; town++) {
            boolean there = town == 2 || town == 5;
            due("out of range in town " + town, x.guess(town, 0, 10), BAD_VALUE);
            waiting += there ? 1 : 0;
            due("guess in town " + town, x.guess(town, 0, 9), there ? waiting : NOT_POSSIBLE);
        }
        due("count(3)", x.count(3), 36);
    }

    private static void leaving() {
        check.sentence("A cart does not wait any more; NOT_POSSIBLE if it does not wait");
        BridgeWardens x = world(12, 8);
        due("leave(7) that never waited", x.leave(7), NOT_POSSIBLE);
        for (int cart = 0; cart < 8; cart++) {
            x.guess(cart, 11 - cart, 5);
        }
        x.pass(3);
        for (int cart = 0; cart < 8; cart++) {
            due("leave(" + cart + ")", x.leave(cart), 11 - cart);
            due("leave(" + cart + ") again", x.leave(cart), NOT_POSSIBLE);
            due("count(3)", x.count(3), 255 & -2 << cart);
            due("ofCart(2)", x.ofCart(cart, 2), NONE);
            due("ofCart(3)", x.ofCart(cart, 3), NONE);
            due("ofCart(4)", x.ofCart(cart, 4), 0);
            due("ofBridge(4)", x.ofBridge(11 - cart, 4), 0);
        }
        x.guess(0, 11, 5);
        x.pass(6);
        due("leave(0) that came over", x.leave(0), NOT_POSSIBLE);
    }
}
