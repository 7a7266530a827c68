/**
 * The edges of hints and ranges, of guesses that win, of routes, and of all that can be asked: each of these sentences of
 * the document has a test of its own.
 */
public final class KnowledgeEdgesTest {
    private static final int NO_SUCH = -1, BAD_VALUE = -2, NOT_POSSIBLE = -5, NONE = -6;
    private static final int HINT = 1;
    private static final int[] FAR = {Integer.MIN_VALUE, -65537, -2, -1, 65536, 1 << 30, Integer.MAX_VALUE};

    private static final Check check = new Check("KnowledgeEdgesTest");

    public static void main(String[] args) {
        hintsByHalves();
        hintsToTheEnd();
        hintThatCostsAll();
        hintForNothing();
        hintOfOneThatKnows();
        hintElsewhere();
        rangesThatAreForgotten();
        endsOfKnows();
        ranksOfWaits();
        partsOfBridges();
        partsOfCarts();
        counts();
        countsOfNothing();
        countsOfAFullWorld();
        setsAreBitMasks();
        coinsAddUp();
        winsOutOfRange();
        winsOfLargeRanges();
        winsOfOneNumber();
        winsBesideTheRange();
        bestGuessOutOfRange();
        bestGuessAtTheEnds();
        bestGuessOfOneNumber();
        bestGuessIsTheLeast();
        routeToTheSameTown();
        noWay();
        longestRoute();
        lowestFirstBridge();
        bothWays();
        theLastCall();
        check.end();
    }

    private static void due(String call, long got, long want) {
        check.due(call, got, want);
    }

    private static void due(String what, String got, String want) {
        check.due(what, got, want);
    }

    /** One bridge between towns 0 and 1, whose riddle is 74 left over by its size, and one cart in town 0. */
    private static BridgeWardens valley(int size, int coins) {
        BridgeWardens x = new BridgeWardens();
        x.bridge(0, 1, size);
        x.cart(0, coins);
        return x;
    }

    private static void dueRange(BridgeWardens x, int bridge, int lower, int upper) {
        due("knows(0, " + bridge + ", 0)", x.knows(0, bridge, 0), lower);
        due("knows(0, " + bridge + ", 1)", x.knows(0, bridge, 1), upper);
    }

    // ---- hints

    private static void hintsByHalves() {
        check.sentence("m being (a + b) / 2: a to m if the riddle is m or less, otherwise m + 1 to b");
        // The riddle is 74, but 0 of size 74, 37, and 2, and 2 of size 3.
        int[] sizes = {150, 149, 148, 147, 75, 76, 74, 2, 3, 1000};
        int[] lower = {0, 0, 74, 74, 38, 38, 0, 0, 2, 0};
        int[] upper = {74, 74, 147, 146, 74, 75, 36, 0, 2, 499};
        for (int i = 0; i < sizes.length; i++) {
            BridgeWardens x = valley(sizes[i], 9);
            due("hint of size " + sizes[i], x.hint(0, 0), upper[i] - lower[i] + 1);
            dueRange(x, 0, lower[i], upper[i]);
        }
        BridgeWardens x = valley(1000, 99);
        int[] left = {500, 250, 125, 62, 31, 16, 8, 4, 2, 1};
        int[] lowest = {0, 0, 0, 63, 63, 63, 71, 71, 73, 74};
        for (int hint = 0; hint < left.length; hint++) {
            due("hint " + hint, x.hint(0, 0), left[hint]);
            dueRange(x, 0, lowest[hint], lowest[hint] + left[hint] - 1);
        }
        due("hint of one that knows", x.hint(0, 0), NOT_POSSIBLE);
    }

    /** Halves the ranges of all bridges until the riddle is known; the riddle never leaves them. */
    private static void hintsToTheEnd() {
        check.sentence("the range that the cart knows becomes a to m if the riddle is m or less, otherwise m + 1 to b: to the end");
        for (int least = 2; least < 60; least += 6) {
            BridgeWardens x = new BridgeWardens();
            x.cart(0, 9999);
            for (int bridge = 0; bridge < 12; bridge++) {
                int size = least + bridge;
                x.bridge(0, 1, size);
                int riddle = x.ofBridge(bridge, 3);
                int lower = 0;
                int upper = size - 1;
                while (lower < upper) {
                    int middle = (lower + upper) / 2;
                    upper = riddle <= middle ? middle : upper;
                    lower = riddle <= middle ? lower : middle + 1;
                    due("hint of size " + size, x.hint(0, bridge), upper - lower + 1);
                    dueRange(x, bridge, lower, upper);
                }
                dueRange(x, bridge, riddle, riddle);
                due("hint of one that knows", x.hint(0, bridge), NOT_POSSIBLE);
            }
        }
    }

    private static void hintThatCostsAll() {
        check.sentence("NOT_POSSIBLE if the cart has too few coins");
        for (int price = 1; price <= 20; price++) {
            BridgeWardens x = valley(1000, price - 1);
            x.set(HINT, price);
            due("one coin too few for " + price, x.hint(0, 0), NOT_POSSIBLE);
            due("ofCart(0, 1)", x.ofCart(0, 1), price - 1);
            due("ofBridge(0, 5)", x.ofBridge(0, 5), 0);
            dueRange(x, 0, 0, 999);
            x = valley(1000, price);
            x.set(HINT, price);
            due("all coins for " + price, x.hint(0, 0), 500);
            due("ofCart(0, 1)", x.ofCart(0, 1), 0);
            due("ofCart(0, 6)", x.ofCart(0, 6), price);
            due("ofBridge(0, 5)", x.ofBridge(0, 5), price);
            due("none left", x.hint(0, 0), NOT_POSSIBLE);
            due("count(8)", x.count(8), 1);
        }
    }

    private static void hintForNothing() {
        check.sentence("A cart pays HINT coins into the till: 0 coins");
        BridgeWardens x = valley(1000, 0);
        due("hint(0, 0) without coins", x.hint(0, 0), NOT_POSSIBLE);
        x.set(HINT, 0);
        due("hint(0, 0) for nothing", x.hint(0, 0), 500);
        due("ofCart(0, 1)", x.ofCart(0, 1), 0);
        due("ofCart(0, 6)", x.ofCart(0, 6), 0);
        due("ofBridge(0, 5)", x.ofBridge(0, 5), 0);
        due("count(8)", x.count(8), 1);
    }

    private static void hintOfOneThatKnows() {
        check.sentence("NOT_POSSIBLE if it knows the riddle (a range of one number)");
        BridgeWardens x = valley(3, 9);
        due("hint(0, 0) of three numbers", x.hint(0, 0), 1);
        due("hint(0, 0)", x.hint(0, 0), NOT_POSSIBLE);
        due("ofCart(0, 1)", x.ofCart(0, 1), 8);
        x = valley(4, 9);
        due("hint(0, 0) of four numbers", x.hint(0, 0), 2);
        due("hint(0, 0) of two numbers", x.hint(0, 0), 1);
        due("hint(0, 0) of one number", x.hint(0, 0), NOT_POSSIBLE);
        due("count(8)", x.count(8), 2);
        x.guess(0, 0, 0);
        x.pass(6);
        due("hint(0, 0) of a new riddle", x.hint(0, 0), 2);
    }

    private static void hintElsewhere() {
        check.sentence("a bridge at its town (waiting or not); NOT_POSSIBLE if the bridge is not at its town");
        BridgeWardens x = new BridgeWardens();
        x.bridge(2, 5, 100);
        x.bridge(5, 6, 100);
        for (int town = 0; town < 8; town++) {
            x.cart(town, 1);
            due("hint in town " + town, x.hint(town, 0), town == 2 || town == 5 ? 50 : NOT_POSSIBLE);
            due("the coins in town " + town, x.ofCart(town, 1), town == 2 || town == 5 ? 0 : 1);
        }
        x = valley(100, 9);
        x.bridge(7, 0, 100);
        x.guess(0, 0, 0);
        due("hint about the bridge at which it waits", x.hint(0, 0), 50);
        due("hint about another one", x.hint(0, 1), 50);
        due("ofCart(0, 2)", x.ofCart(0, 2), 0);
    }

    private static void rangesThatAreForgotten() {
        check.sentence("from 0 to size - 1 at first, and whenever the riddle is drawn");
        BridgeWardens x = new BridgeWardens();
        x.set(HINT, 0);
        x.bridge(0, 1, 100);
        x.bridge(0, 1, 1000);
        for (int cart = 0; cart < 8; cart++) {
            x.cart(cart % 2, 9);
            x.hint(cart, 0);
            x.hint(cart, 1);
        }
        x.guess(7, 0, 0);
        x.pass(6);
        for (int cart = 0; cart < 8; cart++) {
            due("knows(" + cart + ", 0, 0)", x.knows(cart, 0, 0), 0);
            due("knows(" + cart + ", 0, 1)", x.knows(cart, 0, 1), 99);
            due("knows(" + cart + ", 1, 0) of another bridge", x.knows(cart, 1, 0), 500);
            due("knows(" + cart + ", 1, 1) of another bridge", x.knows(cart, 1, 1), 999);
        }
    }

    // ---- what there is

    private static void endsOfKnows() {
        check.sentence("end: 0 the lower one, 1 the upper one; BAD_VALUE if end is neither");
        BridgeWardens x = valley(148, 9);
        x.hint(0, 0);
        dueRange(x, 0, 74, 147);
        due("knows(0, 0, 2)", x.knows(0, 0, 2), BAD_VALUE);
        for (int far : FAR) {
            due("knows(0, 0, " + far + ")", x.knows(0, 0, far), BAD_VALUE);
            due("knows(1, 0, " + far + ")", x.knows(1, 0, far), NO_SUCH);
            due("knows(0, 1, " + far + ")", x.knows(0, 1, far), NO_SUCH);
        }
    }

    private static void ranksOfWaits() {
        check.sentence("NO_SUCH if there is no such bridge, or not so many wait");
        BridgeWardens x = valley(10, 9);
        due("waits(0, 0) of none", x.waits(0, 0), NO_SUCH);
        x.bridge(0, 1, 10);
        for (int cart = 1; cart < 8; cart++) {
            x.cart(0, 9);
        }
        for (int cart = 0; cart < 8; cart++) {
            x.guess(cart, cart % 2, 9);
            int rank = cart / 2;
            due("waits of the last", x.waits(cart % 2, rank), cart);
            due("waits behind the last", x.waits(cart % 2, rank + 1), NO_SUCH);
        }
        for (int far : FAR) {
            due("waits(0, " + far + ")", x.waits(0, far), NO_SUCH);
            due("waits(" + far + ", 0)", x.waits(far, 0), NO_SUCH);
        }
        due("waits(2, 0)", x.waits(2, 0), NO_SUCH);
    }

    private static void partsOfBridges() {
        check.sentence("ofBridge: NO_SUCH if there is no such bridge; BAD_VALUE if what is out of range");
        BridgeWardens x = valley(10, 9);
        int[] parts = {0, 1, 10, 4, 0, 0, 0, 0};
        for (int what = 0; what < 8; what++) {
            due("ofBridge(0, " + what + ")", x.ofBridge(0, what), parts[what]);
            due("ofBridge(1, " + what + ")", x.ofBridge(1, what), NO_SUCH);
        }
        due("ofBridge(0, 8)", x.ofBridge(0, 8), BAD_VALUE);
        for (int far : FAR) {
            due("ofBridge(0, " + far + ")", x.ofBridge(0, far), BAD_VALUE);
            due("ofBridge(1, " + far + ")", x.ofBridge(1, far), NO_SUCH);
        }
    }

    private static void partsOfCarts() {
        check.sentence("ofCart: NO_SUCH if there is no such cart; BAD_VALUE if what is out of range");
        BridgeWardens x = valley(10, 9);
        int[] parts = {0, 9, NONE, NONE, 0, 0, 0, 0};
        for (int what = 0; what < 8; what++) {
            due("ofCart(0, " + what + ")", x.ofCart(0, what), parts[what]);
            due("ofCart(1, " + what + ")", x.ofCart(1, what), NO_SUCH);
        }
        due("ofCart(0, 8)", x.ofCart(0, 8), BAD_VALUE);
        for (int far : FAR) {
            due("ofCart(0, " + far + ")", x.ofCart(0, far), BAD_VALUE);
            due("ofCart(1, " + far + ")", x.ofCart(1, far), NO_SUCH);
        }
        check.sentence("2 the bridge at which it waits (NONE), 3 its guess there (NONE), 4 hours for which it has waited (0 if it does not)");
        x.guess(0, 0, 0);
        due("ofCart(0, 2)", x.ofCart(0, 2), 0);
        due("ofCart(0, 3)", x.ofCart(0, 3), 0);
        x.pass(5);
        due("ofCart(0, 4)", x.ofCart(0, 4), 5);
        x.pass(1);
        due("ofCart(0, 2) behind the bridge", x.ofCart(0, 2), NONE);
        due("ofCart(0, 3) behind the bridge", x.ofCart(0, 3), NONE);
        due("ofCart(0, 4) behind the bridge", x.ofCart(0, 4), 0);
    }

    private static void counts() {
        check.sentence("count: BAD_VALUE if what is out of range");
        BridgeWardens x = valley(10, 9);
        due("count(15)", x.count(15), BAD_VALUE);
        due("count(16)", x.count(16), BAD_VALUE);
        for (int far : FAR) {
            due("count(" + far + ")", x.count(far), BAD_VALUE);
        }
    }

    private static void countsOfNothing() {
        check.sentence("Creates towns without bridges and carts");
        BridgeWardens x = new BridgeWardens();
        int[] counts = {0, 0, 0, 0, 0, 0, 0, 0, 0, 3, 1, 2, 5, 0, 0};
        for (int what = 0; what < 15; what++) {
            due("count(" + what + ")", x.count(what), counts[what]);
        }
        for (int from = 0; from < 8; from++) {
            for (int to = 0; to < 8; to++) {
                due("route(" + from + ", " + to + ", 0)", x.route(from, to, 0), from == to ? 0 : NONE);
            }
        }
        due("would(99, 0)", x.would(99, 0), 0);
        due("would(99, 1)", x.would(99, 1), 0);
        due("would(99, 2)", x.would(99, 2), 0);
        due("would(99, 3)", x.would(99, 3), 0);
        due("fault()", x.fault(), 0);
        due("wipe()", x.wipe(), 0);
        due("save(0)", x.save(0), 0);
        due("restore(0)", x.restore(0), 0);
        due("count(14)", x.count(14), 1);
    }

    private static void countsOfAFullWorld() {
        check.sentence("count: 5 coins of all carts, 6 of all tills, 7 coins with which carts came so far, 8 hints so far");
        BridgeWardens x = new BridgeWardens();
        x.set(HINT, 20);
        for (int bridge = 0; bridge < 12; bridge++) {
            x.bridge(7, bridge % 7, 1000);
        }
        for (int cart = 0; cart < 8; cart++) {
            x.cart(7, 9999);
        }
        due("count(5)", x.count(5), 79992);
        due("count(7)", x.count(7), 79992);
        for (int cart = 0; cart < 8; cart++) {
            for (int bridge = 0; bridge < 12; bridge++) {
                x.hint(cart, bridge);
            }
        }
        due("count(5)", x.count(5), 79992 - 1920);
        due("count(6)", x.count(6), 1920);
        due("count(7)", x.count(7), 79992);
        due("count(8)", x.count(8), 96);
        due("ofCart(7, 6)", x.ofCart(7, 6), 240);
        due("ofBridge(11, 5)", x.ofBridge(11, 5), 160);
        due("undo()", x.undo(), 5);
        due("count(8) behind undo()", x.count(8), 95);
        due("count(6) behind undo()", x.count(6), 1900);
    }

    private static void setsAreBitMasks() {
        check.sentence("Sets of bridges and carts are bit masks");
        BridgeWardens x = valley(10, 9);
        for (int cart = 1; cart < 8; cart++) {
            x.cart(0, 9);
        }
        int set = 0;
        int[] order = {7, 0, 3, 6, 1, 2, 5, 4};
        for (int cart : order) {
            x.guess(cart, 0, 9);
            set += 1 << cart;
            due("count(3)", x.count(3), set);
        }
        due("count(3) of all", x.count(3), 255);
        // All guesses are alike: of the first two carts, 7 and 0, the lower one comes over.
        due("would(1, 3)", x.would(1, 3), 254);
    }

    private static void coinsAddUp() {
        check.sentence("purses and tills that add up");
        BridgeWardens x = new BridgeWardens();
        x.bridge(0, 1, 2);
        x.bridge(1, 0, 3);
        int[] coins = {0, 1, 2, 3, 4, 50};
        for (int number = 0; number < coins.length; number++) {
            x.cart(0, coins[number]);
        }
        x.set(3, 1);
        for (int round = 0; round < 24; round++) {
            for (int cart = 0; cart < 6; cart++) {
                x.hint(cart, round % 2);
                x.guess(cart, (cart + round) % 2, round % 2);
            }
            x.pass(1 + round % 3);
            due("count(5) and count(6)", x.count(5) + x.count(6), 60);
            due("count(7)", x.count(7), 60);
        }
    }

    // ---- guesses that win

    private static void winsOutOfRange() {
        check.sentence("wins: guess: 0 to size - 1, likewise other; BAD_VALUE if guess or other is out of range");
        int[] sizes = {2, 3, 1000};
        for (int size : sizes) {
            BridgeWardens x = valley(size, 9);
            due("guess is size", x.wins(0, 0, size, 0), BAD_VALUE);
            due("other is size", x.wins(0, 0, 0, size), BAD_VALUE);
            due("the ends", x.wins(0, 0, 0, size - 1), size / 2);
            due("the ends", x.wins(0, 0, size - 1, 0), size / 2);
            for (int far : FAR) {
                due("guess is " + far, x.wins(0, 0, far, 0), BAD_VALUE);
                due("other is " + far, x.wins(0, 0, 0, far), BAD_VALUE);
                due("both are " + far, x.wins(0, 0, far, far), BAD_VALUE);
            }
            due("one and the same", x.wins(0, 0, size - 1, size - 1), 0);
            due("one and the same", x.wins(0, 0, 0, 0), 0);
        }
    }

    private static void winsOfLargeRanges() {
        check.sentence("Returns how many numbers of the range that a cart knows of a bridge are nearer to a guess than to another one");
        BridgeWardens x = valley(1000, 9);
        due("wins(0, 0, 0, 999)", x.wins(0, 0, 0, 999), 500);
        due("wins(0, 0, 999, 0)", x.wins(0, 0, 999, 0), 500);
        due("wins(0, 0, 0, 998), 499 is as near", x.wins(0, 0, 0, 998), 499);
        due("wins(0, 0, 998, 0), 499 is as near", x.wins(0, 0, 998, 0), 500);
        due("wins(0, 0, 0, 1)", x.wins(0, 0, 0, 1), 1);
        due("wins(0, 0, 1, 0)", x.wins(0, 0, 1, 0), 999);
        due("wins(0, 0, 0, 2), 1 is as near", x.wins(0, 0, 0, 2), 1);
        due("wins(0, 0, 2, 0), 1 is as near", x.wins(0, 0, 2, 0), 998);
        due("wins(0, 0, 998, 999)", x.wins(0, 0, 998, 999), 999);
        due("wins(0, 0, 999, 998)", x.wins(0, 0, 999, 998), 1);
    }

    private static void winsOfOneNumber() {
        check.sentence("numbers of the range that a cart knows: a range of one number");
        BridgeWardens x = valley(100, 9);
        for (int hint = 0; hint < 7; hint++) {
            x.hint(0, 0);
        }
        dueRange(x, 0, 74, 74);
        due("wins(0, 0, 74, 73)", x.wins(0, 0, 74, 73), 1);
        due("wins(0, 0, 73, 74)", x.wins(0, 0, 73, 74), 0);
        due("wins(0, 0, 73, 75) as near", x.wins(0, 0, 73, 75), 0);
        due("wins(0, 0, 75, 73) as near", x.wins(0, 0, 75, 73), 0);
        due("wins(0, 0, 73, 76)", x.wins(0, 0, 73, 76), 1);
        due("wins(0, 0, 76, 73)", x.wins(0, 0, 76, 73), 0);
        due("wins(0, 0, 72, 75)", x.wins(0, 0, 72, 75), 0);
        due("wins(0, 0, 99, 0)", x.wins(0, 0, 99, 0), 1);
        due("wins(0, 0, 0, 99)", x.wins(0, 0, 0, 99), 0);
        due("wins(0, 0, 74, 74)", x.wins(0, 0, 74, 74), 0);
    }

    private static void winsBesideTheRange() {
        check.sentence("numbers of the range that a cart knows: guesses beside it");
        BridgeWardens x = valley(100, 9);
        x.hint(0, 0);
        dueRange(x, 0, 50, 99);
        due("wins(0, 0, 0, 99) up to 49", x.wins(0, 0, 0, 99), 0);
        due("wins(0, 0, 99, 0) from 50", x.wins(0, 0, 99, 0), 50);
        due("wins(0, 0, 1, 99), 50 is as near", x.wins(0, 0, 1, 99), 0);
        due("wins(0, 0, 99, 1), 50 is as near", x.wins(0, 0, 99, 1), 49);
        due("wins(0, 0, 2, 99) up to 50", x.wins(0, 0, 2, 99), 1);
        due("wins(0, 0, 0, 1)", x.wins(0, 0, 0, 1), 0);
        due("wins(0, 0, 1, 0)", x.wins(0, 0, 1, 0), 50);
        x.hint(0, 0);
        dueRange(x, 0, 50, 74);
        due("wins(0, 0, 49, 99) up to 73", x.wins(0, 0, 49, 99), 24);
        due("wins(0, 0, 99, 49) from 75", x.wins(0, 0, 99, 49), 0);
        due("wins(0, 0, 51, 99) all but those above 74", x.wins(0, 0, 51, 99), 25);
        due("wins(0, 0, 99, 98)", x.wins(0, 0, 99, 98), 0);
        due("wins(0, 0, 98, 99)", x.wins(0, 0, 98, 99), 25);
    }

    private static void bestGuessOutOfRange() {
        check.sentence("bestGuess: BAD_VALUE if other or what is out of range");
        int[] sizes = {2, 3, 1000};
        for (int size : sizes) {
            BridgeWardens x = valley(size, 9);
            due("other is size", x.bestGuess(0, 0, size, 0), BAD_VALUE);
            due("other is size", x.bestGuess(0, 0, size, 1), BAD_VALUE);
            due("what is 2", x.bestGuess(0, 0, 0, 2), BAD_VALUE);
            for (int far : FAR) {
                due("other is " + far, x.bestGuess(0, 0, far, 1), BAD_VALUE);
                due("what is " + far, x.bestGuess(0, 0, size - 1, far), BAD_VALUE);
            }
        }
    }

    private static void bestGuessAtTheEnds() {
        check.sentence("Finds the guess, of all 0 to size - 1, that wins against another one for the most numbers");
        int[] sizes = {2, 2, 3, 3, 3, 1000, 1000, 1000, 1000, 1000};
        int[] others = {0, 1, 0, 1, 2, 0, 999, 499, 500, 1};
        int[] best = {1, 0, 1, 0, 1, 1, 998, 500, 499, 2};
        int[] won = {1, 1, 2, 1, 2, 999, 999, 500, 500, 998};
        for (int i = 0; i < sizes.length; i++) {
            BridgeWardens x = valley(sizes[i], 9);
            due("the guess against " + others[i] + " of " + sizes[i], x.bestGuess(0, 0, others[i], 0), best[i]);
            due("how many against " + others[i] + " of " + sizes[i], x.bestGuess(0, 0, others[i], 1), won[i]);
        }
    }

    private static void bestGuessOfOneNumber() {
        check.sentence("of several the least one: a range of one number");
        BridgeWardens x = valley(100, 9);
        for (int hint = 0; hint < 7; hint++) {
            x.hint(0, 0);
        }
        dueRange(x, 0, 74, 74);
        due("none wins against 74", x.bestGuess(0, 0, 74, 0), 0);
        due("none wins against 74", x.bestGuess(0, 0, 74, 1), 0);
        due("only 74 wins against 73", x.bestGuess(0, 0, 73, 0), 74);
        due("only 74 wins against 75", x.bestGuess(0, 0, 75, 0), 74);
        due("73 wins against 76", x.bestGuess(0, 0, 76, 0), 73);
        due("73 wins against 72", x.bestGuess(0, 0, 72, 0), 73);
        due("50 wins against 99", x.bestGuess(0, 0, 99, 0), 50);
        due("1 wins against 0", x.bestGuess(0, 0, 0, 0), 1);
        due("how many", x.bestGuess(0, 0, 0, 1), 1);
    }

    private static void bestGuessIsTheLeast() {
        check.sentence("that wins against another one for the most numbers of the range that a cart knows, of several the least one");
        BridgeWardens x = valley(100, 9);
        x.hint(0, 0);
        x.hint(0, 0);
        dueRange(x, 0, 50, 74);
        due("all win from 2 on against 99", x.bestGuess(0, 0, 99, 0), 50);
        due("how many", x.bestGuess(0, 0, 99, 1), 25);
        due("all from 50 on against 0", x.bestGuess(0, 0, 0, 0), 1);
        due("how many", x.bestGuess(0, 0, 0, 1), 25);
        due("against the middle one, 62", x.bestGuess(0, 0, 62, 0), 61);
        due("how many, as against 63", x.bestGuess(0, 0, 62, 1), 12);
        due("against 50", x.bestGuess(0, 0, 50, 0), 51);
        due("how many", x.bestGuess(0, 0, 50, 1), 24);
        due("against 74", x.bestGuess(0, 0, 74, 0), 73);
        due("how many", x.bestGuess(0, 0, 74, 1), 24);
    }

    // ---- routes

    private static void routeToTheSameTown() {
        check.sentence("route: 1 the first bridge of such a route (NONE for one and the same town)");
        BridgeWardens x = new BridgeWardens();
        for (int bridge = 0; bridge < 12; bridge++) {
            x.bridge(bridge % 8, (bridge + 1) % 8, 9);
        }
        for (int town = 0; town < 8; town++) {
            due("how few from " + town, x.route(town, town, 0), 0);
            due("the first from " + town, x.route(town, town, 1), NONE);
            due("neither from " + town, x.route(town, town, 2), BAD_VALUE);
        }
    }

    private static void noWay() {
        check.sentence("NONE if there is no way");
        BridgeWardens x = new BridgeWardens();
        due("route(0, 7, 0) without bridges", x.route(0, 7, 0), NONE);
        due("route(0, 7, 1) without bridges", x.route(0, 7, 1), NONE);
        due("route(0, 7, 2) without bridges", x.route(0, 7, 2), BAD_VALUE);
        for (int town = 0; town < 3; town++) {
            x.bridge(town, town + 1, 9);
            x.bridge(town + 4, town + 5, 9);
        }
        for (int from = 0; from < 8; from++) {
            for (int to = 0; to < 8; to++) {
                boolean way = from / 4 == to / 4;
                due("route(" + from + ", " + to + ", 0)", x.route(from, to, 0), way ? Math.abs(from - to) : NONE);
            }
        }
        due("route(3, 4, 1)", x.route(3, 4, 1), NONE);
        x.bridge(4, 3, 9);
        due("route(3, 4, 0)", x.route(3, 4, 0), 1);
        due("route(3, 4, 1)", x.route(3, 4, 1), 6);
        x.undo();
        due("route(3, 4, 0) behind undo()", x.route(3, 4, 0), NONE);
    }

    private static void longestRoute() {
        check.sentence("Tells by how few bridges one comes from a town to another one: seven at the most");
        BridgeWardens x = new BridgeWardens();
        int[] towns = {3, 0, 6, 1, 7, 2, 5, 4};
        for (int i = 6; i >= 0; i--) {
            x.bridge(towns[i + 1], towns[i], 9);
        }
        for (int i = 0; i < 8; i++) {
            for (int j = 0; j < 8; j++) {
                int first = i < j ? 6 - i : 7 - i;
                due("how few", x.route(towns[i], towns[j], 0), Math.abs(i - j));
                due("the first bridge", x.route(towns[i], towns[j], 1), i == j ? NONE : first);
            }
        }
    }

    private static void lowestFirstBridge() {
        check.sentence("1 the first bridge of such a route, of several the lowest one");
        BridgeWardens x = new BridgeWardens();
        x.bridge(0, 1, 9);
        x.bridge(1, 2, 9);
        x.bridge(2, 3, 9);
        x.bridge(0, 4, 9);
        x.bridge(4, 3, 9);
        x.bridge(4, 0, 9);
        x.bridge(0, 5, 9);
        x.bridge(5, 3, 9);
        due("route(0, 3, 0)", x.route(0, 3, 0), 2);
        due("route(0, 3, 1), bridge 0 leads a longer way", x.route(0, 3, 1), 3);
        due("route(3, 0, 1), bridge 2 leads a longer way", x.route(3, 0, 1), 4);
        due("route(4, 0, 1), bridges 3 and 5", x.route(4, 0, 1), 3);
        due("route(2, 0, 1), bridge 1 and not 2", x.route(2, 0, 1), 1);
        due("route(2, 4, 1)", x.route(2, 4, 1), 2);
        due("route(5, 2, 1)", x.route(5, 2, 1), 7);
        due("route(1, 3, 1)", x.route(1, 3, 1), 1);
        due("route(1, 5, 1)", x.route(1, 5, 1), 0);
        due("route(2, 5, 0)", x.route(2, 5, 0), 2);
        due("route(1, 5, 0)", x.route(1, 5, 0), 2);
        due("route(4, 5, 1), bridges 3, 4 and 5", x.route(4, 5, 1), 3);
    }

    private static void bothWays() {
        check.sentence("Tells by how few bridges one comes from a town to another one: in both directions");
        BridgeWardens x = new BridgeWardens();
        x.bridge(7, 0, 9);
        due("route(7, 0, 0)", x.route(7, 0, 0), 1);
        due("route(0, 7, 0)", x.route(0, 7, 0), 1);
        due("route(7, 0, 1)", x.route(7, 0, 1), 0);
        due("route(0, 7, 1)", x.route(0, 7, 1), 0);
    }

    // ---- the last call

    private static void theLastCall() {
        check.sentence("An object is used for at most 512 calls after it has been made");
        BridgeWardens x = new BridgeWardens();
        for (int call = 1; call < 512; call++) {
            due("call " + call, x.set(0, call % 51), call == 1 ? 3 : (call - 1) % 51);
        }
        due("the 512th call", x.count(9), 511 % 51);
    }
}
