/** The edges of an hour, and of what is asked about the hours to come: each of these sentences has a test of its own. */
public final class HourEdgesTest {
    private static final int NO_SUCH = -1, BAD_VALUE = -2, NOT_POSSIBLE = -5, NONE = -6;
    private static final int BAR = 0, HINT = 1, GIFT = 2, WAIT = 3;
    private static final int[] FAR = {Integer.MIN_VALUE, -65537, -2, -1, 65536, 1 << 30, Integer.MAX_VALUE};
    /** What the first bridges have as riddles, if their size is 1000. */
    private static final int[] RIDDLES = {74, 624, 652, 22, 641, 409};

    private static final Check check = new Check("HourEdgesTest");

    public static void main(String[] args) {
        hoursOfPass();
        hoursInAll();
        hoursOfOrders();
        hoursThatAreCounted();
        oneCartAtMost();
        bridgesByNumbers();
        nobodyWaits();
        theFirstTwoAreCompared();
        theNearerGuess();
        theFarthestGuesses();
        bothAsNear();
        bothAsNearForNothing();
        tiesThatAreCounted();
        waitsAlone();
        waitsInAll();
        waitOfAnotherSetting();
        paysAloneWhatItHas();
        giftsAtTheEdge();
        giftsOfEachWay();
        giftsAndPaymentsSoFar();
        noGift();
        theOtherTown();
        doesNotWaitAnyMore();
        oneHourMore();
        nextAtTheEdge();
        whyInOrder();
        overInFirstAndLast();
        overInNever();
        overInOfALine();
        hoursOfWould();
        wouldAtTheEdge();
        theBoundOfHoursDoesNotMatter();
        nothingChanges();
        check.end();
    }

    private static void due(String call, long got, long want) {
        check.due(call, got, want);
    }

    private static void due(String what, String got, String want) {
        check.due(what, got, want);
    }

    /** Bridge 0 between towns 0 and 1, whose riddle is 74 of 0 to 999, and a cart in town 0 for each of the coins. */
    private static BridgeWardens valley(int... coins) {
        BridgeWardens x = new BridgeWardens();
        x.bridge(0, 1, 1000);
        for (int purse : coins) {
            x.cart(0, purse);
        }
        return x;
    }

    /** Lets two carts wait, the one of the lower number first or last, and answers which one comes over. */
    private static int over(int guess, int other, boolean lowerFirst) {
        BridgeWardens x = valley(9, 9);
        x.guess(lowerFirst ? 0 : 1, 0, lowerFirst ? guess : other);
        x.guess(lowerFirst ? 1 : 0, 0, lowerFirst ? other : guess);
        int next = x.next(0);
        due("pass(1)", x.pass(1), 1);
        due("the one that came over", x.ofCart(next, 0), 1);
        due("the one that stays", x.ofCart(1 - next, 0), 0);
        return next;
    }

    // ---- pass

    private static void hoursOfPass() {
        check.sentence("pass: hours: 1 to 99; BAD_VALUE if hours is out of range");
        BridgeWardens x = valley(9);
        due("pass(0)", x.pass(0), BAD_VALUE);
        due("pass(100)", x.pass(100), BAD_VALUE);
        for (int far : FAR) {
            due("pass(" + far + ")", x.pass(far), BAD_VALUE);
        }
        due("count(0)", x.count(0), 0);
        due("pass(1)", x.pass(1), 0);
        due("count(0)", x.count(0), 1);
        due("pass(99)", x.pass(99), 0);
        due("count(0)", x.count(0), 100);
        due("pass(0)", x.pass(0), BAD_VALUE);
        due("pass(100)", x.pass(100), BAD_VALUE);
    }

    /** Hours have passed up to so many. */
    private static void passUpTo(BridgeWardens x, int hours) {
        for (int left = hours; left > 0; left -= 99) {
            x.pass(Math.min(left, 99));
        }
        due("count(0)", x.count(0), hours);
    }

    private static void hoursInAll() {
        check.sentence("NOT_POSSIBLE if there would be more than 9999 hours");
        for (int hours = 1; hours <= 99; hours += 49) {
            BridgeWardens x = new BridgeWardens();
            passUpTo(x, 9999 - hours);
            due("one hour too many", x.pass(hours + 1), hours == 99 ? BAD_VALUE : NOT_POSSIBLE);
            due("count(0)", x.count(0), 9999 - hours);
            due("up to the last hour", x.pass(hours), 0);
            due("count(0)", x.count(0), 9999);
            due("pass(1)", x.pass(1), NOT_POSSIBLE);
            due("pass(99)", x.pass(99), NOT_POSSIBLE);
            due("pass(0)", x.pass(0), BAD_VALUE);
            due("pass(100)", x.pass(100), BAD_VALUE);
            due("count(0)", x.count(0), 9999);
            x.undo();
            due("the last hours again", x.pass(hours), 0);
        }
    }

    private static void hoursOfOrders() {
        check.sentence("\"p\": pass() hours: the same bounds");
        BridgeWardens x = new BridgeWardens();
        passUpTo(x, 9998);
        Check.type(x, "p2;p1");
        due("carryOut() of p2;p1", x.carryOut(), 0);
        Check.type(x, "p1;p1");
        due("carryOut() of p1;p1", x.carryOut(), 1);
        due("count(0)", x.count(0), 9999);
        String[] orders = {"p0", "p1", "p99", "p100", "p9999"};
        for (String order : orders) {
            x = new BridgeWardens();
            Check.type(x, order);
            due("carryOut() of " + order, x.carryOut(), order.equals("p1") || order.equals("p99") ? 1 : 0);
        }
    }

    private static void hoursThatAreCounted() {
        check.sentence("then the hour is counted (0 at first)");
        BridgeWardens x = new BridgeWardens();
        due("count(0)", x.count(0), 0);
        for (int hours = 1; hours <= 20; hours++) {
            x.pass(hours);
            due("count(0)", x.count(0), hours * (hours + 1) / 2);
        }
        x.undo();
        due("count(0) behind undo()", x.count(0), 190);
    }

    // ---- who comes over

    private static void oneCartAtMost() {
        check.sentence("At each bridge, by numbers, at most one cart comes over");
        BridgeWardens x = valley(9, 9, 9, 9, 9, 9, 9, 9);
        x.set(BAR, 0);
        for (int cart = 0; cart < 8; cart++) {
            x.guess(cart, 0, 500);
        }
        for (int hour = 1; hour < 8; hour++) {
            due("pass(1)", x.pass(1), 1);
            due("ofBridge(0, 4)", x.ofBridge(0, 4), 8 - hour);
            due("count(4)", x.count(4), hour);
        }
        due("the last one, alone for 7 hours", x.pass(1), 1);
        due("pass(1)", x.pass(1), 0);
        due("ofBridge(0, 6)", x.ofBridge(0, 6), 8);
        x = valley(9, 9, 9);
        x.set(WAIT, 1);
        for (int cart = 0; cart < 3; cart++) {
            x.guess(cart, 0, cart);
        }
        due("pass(99) of three", x.pass(99), 3);
    }

    private static void bridgesByNumbers() {
        check.sentence("At each bridge, by numbers: the riddles are drawn in their order");
        BridgeWardens x = new BridgeWardens();
        for (int bridge = 0; bridge < 3; bridge++) {
            x.bridge(0, 1 + bridge, 1000);
        }
        for (int cart = 0; cart < 6; cart++) {
            x.cart(0, 9);
        }
        for (int cart = 0; cart < 6; cart++) {
            x.guess(cart, 2 - cart / 2, cart % 2);
        }
        due("pass(1) over three bridges", x.pass(1), 3);
        for (int bridge = 0; bridge < 3; bridge++) {
            due("the riddle of " + bridge, x.ofBridge(bridge, 3), RIDDLES[3 + bridge]);
            due("ofBridge(" + bridge + ", 6)", x.ofBridge(bridge, 6), 1);
        }
        x = new BridgeWardens();
        x.bridge(0, 1, 1000);
        x.bridge(1, 2, 1000);
        x.cart(0, 9);
        x.cart(1, 9);
        x.set(WAIT, 1);
        x.guess(0, 0, 0);
        x.guess(1, 1, 0);
        due("pass(2)", x.pass(2), 2);
        due("a cart comes over once in an hour", x.ofCart(0, 0), 1);
        due("the other cart", x.ofCart(1, 0), 2);
    }

    private static void nobodyWaits() {
        check.sentence("at most one cart comes over: none where none waits");
        BridgeWardens x = valley(9);
        due("pass(99)", x.pass(99), 0);
        due("ofCart(0, 4)", x.ofCart(0, 4), 0);
        due("ofBridge(0, 6)", x.ofBridge(0, 6), 0);
        due("ofBridge(0, 7)", x.ofBridge(0, 7), 0);
        due("ofBridge(0, 3)", x.ofBridge(0, 3), 74);
    }

    private static void theFirstTwoAreCompared() {
        check.sentence("If two carts or more wait there, the two that came to wait first are compared");
        BridgeWardens x = valley(9, 9, 9);
        x.guess(2, 0, 900);
        x.guess(1, 0, 800);
        x.guess(0, 0, 74);
        due("next(0), the third one is not compared", x.next(0), 1);
        x.leave(2);
        due("next(0), the third one is second now", x.next(0), 0);
        x.guess(2, 0, 74);
        due("next(0), the first one is third now", x.next(0), 0);
        x.leave(0);
        due("next(0), the first one is second now", x.next(0), 2);
        x.pass(1);
        due("ofCart(2, 0)", x.ofCart(2, 0), 1);
        due("ofCart(1, 0)", x.ofCart(1, 0), 0);
    }

    private static void theNearerGuess() {
        check.sentence("compared by how far their guesses are from the riddle. The nearer one comes over");
        int[] nearer = {74, 74, 73, 75, 73, 75, 1, 148, 0, 147, 0};
        int[] farther = {73, 75, 76, 72, 72, 76, 0, 149, 149, 0, 999};
        for (int i = 0; i < nearer.length; i++) {
            due(nearer[i] + " and " + farther[i], over(nearer[i], farther[i], true), 0);
            due(nearer[i] + " and " + farther[i], over(nearer[i], farther[i], false), 0);
            due(farther[i] + " and " + nearer[i], over(farther[i], nearer[i], true), 1);
            due(farther[i] + " and " + nearer[i], over(farther[i], nearer[i], false), 1);
        }
        check.sentence("who comes over so pays BAR coins into the till: the nearer one does not");
        BridgeWardens x = valley(9, 9);
        x.guess(0, 0, 72);
        x.guess(1, 0, 75);
        x.pass(1);
        due("ofCart(1, 1)", x.ofCart(1, 1), 9);
        due("ofCart(1, 6)", x.ofCart(1, 6), 0);
        due("ofBridge(0, 5)", x.ofBridge(0, 5), 0);
        due("ofBridge(0, 7)", x.ofBridge(0, 7), 0);
        x = valley(0, 0);
        x.guess(0, 0, 72);
        x.guess(1, 0, 75);
        due("the nearer one needs no coins", x.pass(1), 1);
    }

    private static void theFarthestGuesses() {
        check.sentence("how far their guesses are from the riddle: the ends of a range");
        BridgeWardens x = new BridgeWardens();
        x.bridge(0, 1, 2);
        x.cart(0, 9);
        x.cart(0, 9);
        // The riddle is 0.
        x.guess(0, 0, 1);
        x.guess(1, 0, 0);
        due("0 and 1 of two numbers", x.next(0), 1);
        x = new BridgeWardens();
        x.bridge(0, 1, 75);
        x.cart(0, 9);
        x.cart(0, 9);
        // The riddle is 74, the last number.
        x.guess(0, 0, 0);
        x.guess(1, 0, 1);
        due("0 and 1 of 75 numbers", x.next(0), 1);
    }

    // ---- both as near

    /** Who comes over if both are as near: the lower number, the other one, or none. */
    private static int payer(int bar, int coins, int otherCoins) {
        return coins >= bar ? 0 : otherCoins >= bar ? 1 : NONE;
    }

    private static void bothAsNear() {
        check.sentence("If both are as near, the one with the lower number comes over, if it has BAR coins or more; "
            + "otherwise the other one, if it has; otherwise none");
        int[] bars = {1, 3, 50};
        for (int bar : bars) {
            for (int coins = bar - 1; coins <= bar + 1; coins++) {
                for (int otherCoins = bar - 1; otherCoins <= bar + 1; otherCoins++) {
                    tieOf(bar, coins, otherCoins, 73, 75);
                    tieOf(bar, coins, otherCoins, 75, 73);
                    tieOf(bar, coins, otherCoins, 74, 74);
                    tieOf(bar, coins, otherCoins, 148, 0);
                }
            }
        }
    }

    private static void tieOf(int bar, int coins, int otherCoins, int guess, int otherGuess) {
        for (int first = 0; first < 2; first++) {
            BridgeWardens x = valley(coins, otherCoins);
            x.set(BAR, bar);
            x.set(GIFT, 0);
            x.guess(first, 0, first == 0 ? guess : otherGuess);
            x.guess(1 - first, 0, first == 0 ? otherGuess : guess);
            String what = " of " + coins + " and " + otherCoins + " coins at " + bar;
            int payer = payer(bar, coins, otherCoins);
            due("next" + what, x.next(0), payer);
            due("pass" + what, x.pass(1), payer == NONE ? 0 : 1);
            due("the lower one" + what, x.ofCart(0, 1), payer == 0 ? coins - bar : coins);
            due("the other one" + what, x.ofCart(1, 1), payer == 1 ? otherCoins - bar : otherCoins);
            due("the town of the lower one" + what, x.ofCart(0, 0), payer == 0 ? 1 : 0);
            due("the town of the other one" + what, x.ofCart(1, 0), payer == 1 ? 1 : 0);
            due("the till" + what, x.ofBridge(0, 5), payer == NONE ? 0 : bar);
            due("how often as near" + what, x.ofBridge(0, 7), 1);
        }
    }

    private static void bothAsNearForNothing() {
        check.sentence("if it has BAR coins or more: BAR is 0");
        BridgeWardens x = valley(0, 0);
        x.set(BAR, 0);
        x.guess(1, 0, 75);
        x.guess(0, 0, 73);
        due("next(0)", x.next(0), 0);
        due("why(1)", x.why(1), 5);
        due("pass(1)", x.pass(1), 1);
        due("ofCart(0, 5)", x.ofCart(0, 5), 1);
        due("ofCart(0, 6)", x.ofCart(0, 6), 0);
        due("ofBridge(0, 5)", x.ofBridge(0, 5), 0);
        due("ofBridge(0, 7)", x.ofBridge(0, 7), 1);
    }

    private static void tiesThatAreCounted() {
        check.sentence("7 how often two were as near so far, as they were compared in an hour");
        BridgeWardens x = valley(0, 0);
        x.guess(0, 0, 73);
        due("of one alone", x.ofBridge(0, 7), 0);
        x.guess(1, 0, 75);
        due("ahead of the hour", x.ofBridge(0, 7), 0);
        x.next(0);
        x.overIn(0);
        x.would(99, 0);
        due("what-ifs do not count", x.ofBridge(0, 7), 0);
        x.pass(1);
        due("if none can pay", x.ofBridge(0, 7), 1);
        x.pass(99);
        due("in each hour", x.ofBridge(0, 7), 100);
        x.leave(0);
        x.guess(0, 0, 74);
        x.pass(1);
        due("if one is nearer", x.ofBridge(0, 7), 100);
        x.undo();
        x.undo();
        x.undo();
        x.undo();
        due("undone", x.ofBridge(0, 7), 1);
        x = valley(0, 0, 9, 9);
        x.guess(0, 0, 0);
        x.guess(1, 0, 1);
        x.guess(2, 0, 1);
        x.guess(3, 0, 1);
        x.pass(1);
        due("of those behind the first two", x.ofBridge(0, 7), 0);
    }

    // ---- alone

    private static void waitsAlone() {
        check.sentence("If one cart waits there alone, and has waited for WAIT hours or more, it comes over");
        for (int wait = 1; wait <= 20; wait++) {
            BridgeWardens x = valley(9);
            x.set(WAIT, wait);
            x.guess(0, 0, 0);
            due("overIn(0)", x.overIn(0), wait + 1);
            if (wait > 1) {
                due("one hour too few", x.pass(wait - 1), 0);
                due("next(0)", x.next(0), NONE);
                due("why(0)", x.why(0), 2);
                due("overIn(0)", x.overIn(0), 2);
            }
            due("the last hour of " + wait, x.pass(wait > 1 ? 1 : wait), 0);
            due("ofCart(0, 4)", x.ofCart(0, 4), wait);
            due("next(0)", x.next(0), 0);
            due("why(0)", x.why(0), 0);
            due("overIn(0)", x.overIn(0), 1);
            due("pass(1)", x.pass(1), 1);
            due("ofCart(0, 0)", x.ofCart(0, 0), 1);
            due("ofCart(0, 1)", x.ofCart(0, 1), 6);
        }
    }

    private static void waitsInAll() {
        check.sentence("has waited for WAIT hours or more (in all, also while others waited there)");
        for (int hours = 1; hours <= 6; hours++) {
            BridgeWardens x = valley(2, 2);
            x.guess(0, 0, 73);
            x.guess(1, 0, 75);
            due("none can pay", x.pass(hours), 0);
            x.leave(0);
            due("overIn(1) behind " + hours, x.overIn(1), Math.max(1, 6 - hours));
            due("next(0) behind " + hours, x.next(0), hours >= 5 ? 1 : NONE);
            due("pass(1) behind " + hours, x.pass(1), hours >= 5 ? 1 : 0);
        }
        BridgeWardens x = valley(9, 9);
        x.guess(0, 0, 500);
        x.pass(5);
        x.guess(1, 0, 499);
        due("the nearer one is first", x.pass(1), 1);
        due("ofCart(1, 0)", x.ofCart(1, 0), 1);
        due("then the one that waited for 6 hours", x.next(0), 0);
        x = valley(9, 9);
        x.guess(0, 0, 500);
        x.pass(4);
        x.leave(0);
        x.guess(0, 0, 500);
        due("hours of an earlier wait do not count", x.pass(5), 0);
        due("pass(1)", x.pass(1), 1);
    }

    private static void waitOfAnotherSetting() {
        check.sentence("has waited for WAIT hours or more: as it is set now");
        BridgeWardens x = valley(9);
        x.guess(0, 0, 0);
        x.pass(4);
        due("next(0)", x.next(0), NONE);
        x.set(WAIT, 4);
        due("next(0) at 4", x.next(0), 0);
        x.set(WAIT, 1);
        due("next(0) at 1", x.next(0), 0);
        x.set(WAIT, 20);
        due("overIn(0) at 20", x.overIn(0), 17);
        due("pass(16)", x.pass(16), 0);
        due("next(0) at 20", x.next(0), 0);
    }

    private static void paysAloneWhatItHas() {
        check.sentence("it pays BAR coins into the till, or all that it has, if that is less");
        int[] bars = {0, 1, 3, 50};
        for (int bar : bars) {
            for (int coins = Math.max(0, bar - 1); coins <= bar + 1; coins++) {
                BridgeWardens x = valley(coins);
                x.set(BAR, bar);
                x.guess(0, 0, 0);
                due("pass(6)", x.pass(6), 1);
                int paid = Math.min(bar, coins);
                due("the coins that are left of " + coins + " at " + bar, x.ofCart(0, 1), coins - paid);
                due("the coins that are paid", x.ofCart(0, 6), paid);
                due("the till", x.ofBridge(0, 5), paid);
            }
        }
        BridgeWardens x = valley(0);
        x.set(BAR, 50);
        x.guess(0, 0, 0);
        due("pass(6) without coins", x.pass(6), 1);
        due("ofCart(0, 1)", x.ofCart(0, 1), 0);
    }

    // ---- gifts

    private static void giftsAtTheEdge() {
        check.sentence("it gets GIFT coins out of the till, or all that is in it, if that is less");
        int[] gifts = {0, 1, 2, 20, 49, 50};
        for (int gift : gifts) {
            for (int till = Math.max(0, gift - 1); till <= gift + 1; till++) {
                BridgeWardens x = valley(0, 200);
                fillTill(x, till);
                x.set(GIFT, gift);
                x.guess(0, 0, 74);
                x.guess(1, 0, 73);
                x.pass(1);
                int got = Math.min(gift, till);
                due("a gift of " + gift + " out of " + till, x.ofCart(0, 7), got);
                due("ofCart(0, 1)", x.ofCart(0, 1), got);
                due("ofCart(0, 6)", x.ofCart(0, 6), 0);
                due("ofBridge(0, 5)", x.ofBridge(0, 5), till - got);
            }
        }
    }

    /** Cart 1 pays for hints until there are so many coins in the till. */
    private static void fillTill(BridgeWardens x, int till) {
        for (int left = till; left > 0; left -= 20) {
            x.set(HINT, Math.min(left, 20));
            x.hint(1, 0);
        }
        due("the till", x.ofBridge(0, 5), till);
    }

    private static void giftsOfEachWay() {
        check.sentence("If the guess of the one that comes over is the riddle, it gets GIFT coins: whichever way it came");
        BridgeWardens x = valley(9);
        x.guess(0, 0, 74);
        x.pass(6);
        due("alone, out of what it paid", x.ofCart(0, 7), 2);
        due("ofCart(0, 6)", x.ofCart(0, 6), 3);
        due("ofBridge(0, 5)", x.ofBridge(0, 5), 1);
        x = valley(1);
        x.guess(0, 0, 74);
        x.pass(6);
        due("alone, out of all that it had", x.ofCart(0, 7), 1);
        due("ofCart(0, 1)", x.ofCart(0, 1), 1);
        due("ofBridge(0, 5)", x.ofBridge(0, 5), 0);
        x = valley(9, 9);
        x.guess(0, 0, 74);
        x.guess(1, 0, 74);
        x.pass(1);
        due("as near, out of what it paid", x.ofCart(0, 7), 2);
        due("the other one", x.ofCart(1, 7), 0);
        due("ofBridge(0, 5)", x.ofBridge(0, 5), 1);
        x = valley(9, 9);
        x.guess(0, 0, 74);
        x.guess(1, 0, 75);
        x.pass(1);
        due("nearer, out of an empty till", x.ofCart(0, 7), 0);
        due("ofCart(0, 1)", x.ofCart(0, 1), 9);
        x = valley(9, 9);
        x.set(GIFT, 50);
        x.set(BAR, 9);
        x.guess(0, 0, 74);
        x.guess(1, 0, 74);
        x.pass(1);
        due("all that it paid", x.ofCart(0, 7), 9);
        due("ofBridge(0, 5)", x.ofBridge(0, 5), 0);
    }

    private static void giftsAndPaymentsSoFar() {
        check.sentence("6 coins that it paid so far, 7 gifts that it got so far, in coins: of several times");
        BridgeWardens x = valley(9);
        x.set(WAIT, 1);
        for (int times = 1; times <= 3; times++) {
            x.hint(0, 0);
            x.guess(0, 0, x.ofBridge(0, 3));
            x.pass(2);
            due("ofCart(0, 5)", x.ofCart(0, 5), times);
            due("ofCart(0, 6)", x.ofCart(0, 6), 4 * times);
            due("ofCart(0, 7)", x.ofCart(0, 7), 2 * times);
            due("ofCart(0, 1)", x.ofCart(0, 1), 9 - 2 * times);
            due("ofBridge(0, 5)", x.ofBridge(0, 5), 2 * times);
        }
    }

    private static void noGift() {
        check.sentence("If the guess of the one that comes over is the riddle: not one beside it");
        int[] guesses = {0, 73, 75, 999};
        for (int guess : guesses) {
            BridgeWardens x = valley(0, 200);
            fillTill(x, 30);
            x.guess(0, 0, guess);
            due("pass(6)", x.pass(6), 1);
            due("no gift for " + guess, x.ofCart(0, 7), 0);
            due("ofBridge(0, 5)", x.ofBridge(0, 5), 30);
        }
        BridgeWardens x = valley(0, 200);
        fillTill(x, 30);
        x.bridge(0, 1, 1000);
        x.guess(0, 1, RIDDLES[1]);
        x.pass(6);
        due("out of its own till", x.ofCart(0, 7), 0);
        due("the till of another bridge", x.ofBridge(0, 5), 30);
    }

    // ---- over

    private static void theOtherTown() {
        check.sentence("Who comes over is in the other town of the bridge then");
        BridgeWardens x = new BridgeWardens();
        x.bridge(6, 3, 1000);
        x.cart(3, 9);
        x.cart(6, 9);
        x.set(WAIT, 1);
        x.guess(0, 0, 0);
        x.pass(2);
        due("from the one that was told last", x.ofCart(0, 0), 6);
        x.guess(1, 0, 0);
        x.pass(2);
        due("from the one that was told first", x.ofCart(1, 0), 3);
        x.guess(0, 0, 0);
        x.pass(2);
        due("back", x.ofCart(0, 0), 3);
        due("ofCart(0, 5)", x.ofCart(0, 5), 2);
        due("ofBridge(0, 6)", x.ofBridge(0, 6), 3);
        due("ofBridge(0, 0)", x.ofBridge(0, 0), 6);
        x.guess(0, 0, 0);
        x.guess(1, 0, 0);
        due("of two that come from both towns", x.pass(3), 2);
    }

    private static void doesNotWaitAnyMore() {
        check.sentence("Who comes over does not wait any more; and the riddle is drawn");
        BridgeWardens x = valley(9, 9);
        x.guess(0, 0, 5);
        x.guess(1, 0, 4);
        x.pass(1);
        due("ofCart(0, 2)", x.ofCart(0, 2), NONE);
        due("ofCart(0, 3)", x.ofCart(0, 3), NONE);
        due("ofCart(0, 4)", x.ofCart(0, 4), 0);
        due("why(0)", x.why(0), 1);
        due("leave(0)", x.leave(0), NOT_POSSIBLE);
        due("waits(0, 0)", x.waits(0, 0), 1);
        due("waits(0, 1)", x.waits(0, 1), NO_SUCH);
        due("count(3)", x.count(3), 2);
        due("ofBridge(0, 3)", x.ofBridge(0, 3), 624);
        due("guess(0, 0, 5) on the other side", x.guess(0, 0, 5), 2);
        // 4 and 5 are both below the new riddle 624.
        due("the new riddle counts", x.next(0), 0);
    }

    private static void oneHourMore() {
        check.sentence("Then each cart that waits has waited for one hour more");
        BridgeWardens x = valley(9, 9, 9, 9);
        x.bridge(0, 2, 1000);
        x.guess(0, 0, 70);
        x.guess(1, 0, 1);
        x.guess(2, 1, 1);
        x.pass(1);
        int[] waited = {0, 1, 1, 0};
        for (int cart = 0; cart < 4; cart++) {
            due("ofCart(" + cart + ", 4)", x.ofCart(cart, 4), waited[cart]);
        }
        x.guess(3, 0, 1);
        due("ofCart(3, 4) of one that comes", x.ofCart(3, 4), 0);
        x = valley(0, 0);
        x.guess(0, 0, 73);
        x.guess(1, 0, 75);
        x.pass(99);
        x.pass(99);
        due("ofCart(0, 4) has no bound", x.ofCart(0, 4), 198);
    }

    // ---- what if

    private static void nextAtTheEdge() {
        check.sentence("next: NO_SUCH if there is no such bridge; NONE if none would");
        BridgeWardens x = new BridgeWardens();
        due("next(0) without bridges", x.next(0), NO_SUCH);
        x = valley(9, 9);
        for (int far : FAR) {
            due("next(" + far + ")", x.next(far), NO_SUCH);
        }
        due("next(1)", x.next(1), NO_SUCH);
        due("next(0) without one that waits", x.next(0), NONE);
        x.guess(1, 0, 999);
        due("next(0) of one alone", x.next(0), NONE);
        x.guess(0, 0, 998);
        due("next(0) of two", x.next(0), 0);
        x.leave(0);
        x.leave(1);
        due("next(0) without one that waits", x.next(0), NONE);
    }

    private static void whyInOrder() {
        check.sentence("why: 0: it would; the first of these that is so");
        BridgeWardens x = valley(2, 2, 9);
        due("why(2) of one that does not wait", x.why(2), 1);
        x.guess(0, 0, 73);
        due("why(0) alone", x.why(0), 2);
        x.guess(1, 0, 75);
        due("why(0), neither can pay", x.why(0), 6);
        due("why(1), neither can pay", x.why(1), 6);
        x.guess(2, 0, 74);
        due("why(2) behind two, though it is nearer", x.why(2), 3);
        x.pass(20);
        due("why(2) behind two, though it waits for long", x.why(2), 3);
        due("why(0), neither can pay", x.why(0), 6);
        x.leave(1);
        due("why(0), the other one is nearer", x.why(0), 4);
        due("why(2) is nearer", x.why(2), 0);
        x.leave(2);
        due("why(0) alone for long", x.why(0), 0);
        x = valley(3, 9, 9);
        x.guess(1, 0, 73);
        x.guess(0, 0, 75);
        due("why(0) that has BAR coins", x.why(0), 0);
        due("why(1), both are as near", x.why(1), 5);
        x.set(BAR, 4);
        due("why(0) that has too few", x.why(0), 5);
        due("why(1) that comes over", x.why(1), 0);
        x.set(BAR, 9);
        due("why(1) that has just enough", x.why(1), 0);
        x.set(BAR, 10);
        due("why(1), neither has BAR coins", x.why(1), 6);
        due("why(0), neither has BAR coins", x.why(0), 6);
    }

    private static void overInFirstAndLast() {
        check.sentence("Tells in how many hours a cart comes over, if nothing else is done");
        BridgeWardens x = valley(9, 9, 9, 9, 9, 9, 9, 9);
        due("overIn(0) of one that does not wait", x.overIn(0), NOT_POSSIBLE);
        due("overIn(8)", x.overIn(8), NO_SUCH);
        x.set(WAIT, 20);
        x.guess(0, 0, 74);
        due("overIn(0) alone, the longest", x.overIn(0), 21);
        x.guess(1, 0, 73);
        due("overIn(0) of the nearer one", x.overIn(0), 1);
        due("overIn(1) of the farther one", x.overIn(1), 21);
        x.pass(1);
        due("overIn(1)", x.overIn(1), 20);
        due("overIn(0) of one that came over", x.overIn(0), NOT_POSSIBLE);
        x.pass(19);
        due("overIn(1)", x.overIn(1), 1);
        x.pass(1);
        due("overIn(1)", x.overIn(1), NOT_POSSIBLE);
    }

    private static void overInNever() {
        check.sentence("NONE if it is not within 100");
        BridgeWardens x = valley(2, 2, 9);
        x.guess(0, 0, 73);
        x.guess(1, 0, 75);
        x.guess(2, 0, 74);
        for (int cart = 0; cart < 3; cart++) {
            due("overIn(" + cart + ")", x.overIn(cart), NONE);
        }
        x.pass(99);
        due("overIn(2)", x.overIn(2), NONE);
        x.set(BAR, 2);
        due("overIn(0) at 2 coins", x.overIn(0), 1);
        due("NOT_POSSIBLE is not NONE", valley(2).overIn(0), NOT_POSSIBLE);
    }

    private static void overInOfALine() {
        check.sentence("Tells in how many hours a cart comes over: those of a line, one by one");
        BridgeWardens x = valley(0, 0, 0, 0, 0, 0, 0, 0);
        x.set(BAR, 0);
        for (int cart = 0; cart < 8; cart++) {
            x.guess(cart, 0, 500);
        }
        for (int cart = 0; cart < 8; cart++) {
            due("overIn(" + cart + ")", x.overIn(cart), cart + 1);
        }
        x.set(WAIT, 20);
        due("overIn(7), the last one alone", x.overIn(7), 21);
        due("would(7, 0)", x.would(7, 0), 7);
        due("would(20, 0)", x.would(20, 0), 7);
        due("would(21, 0)", x.would(21, 0), 8);
    }

    private static void hoursOfWould() {
        check.sentence("would: hours: 1 to 99; BAD_VALUE if an argument is out of range");
        BridgeWardens x = valley(9, 9);
        x.guess(0, 0, 73);
        x.guess(1, 0, 75);
        for (int what = 0; what < 4; what++) {
            due("would(0, " + what + ")", x.would(0, what), BAD_VALUE);
            due("would(100, " + what + ")", x.would(100, what), BAD_VALUE);
            for (int far : FAR) {
                due("would(" + far + ", " + what + ")", x.would(far, what), BAD_VALUE);
            }
        }
        for (int far : FAR) {
            due("would(1, " + far + ")", x.would(1, far), BAD_VALUE);
        }
        due("would(1, 4)", x.would(1, 4), BAD_VALUE);
        int[] first = {1, 3, 0, 2};
        int[] last = {2, 6, 0, 0};
        for (int what = 0; what < 4; what++) {
            due("would(1, " + what + ")", x.would(1, what), first[what]);
            due("would(99, " + what + ")", x.would(99, what), last[what]);
        }
    }

    private static void wouldAtTheEdge() {
        check.sentence("how often carts come over, coins that are paid, gifts in coins, in them; carts that wait then, as a set");
        BridgeWardens x = valley(9, 2);
        x.hint(0, 0);
        x.guess(0, 0, 74);
        x.guess(1, 0, 500);
        due("would(1, 2), a gift out of the till", x.would(1, 2), 1);
        due("would(1, 1), hints do not count", x.would(1, 1), 0);
        due("would(5, 0), one hour too few", x.would(5, 0), 1);
        due("would(5, 3)", x.would(5, 3), 2);
        due("would(6, 0)", x.would(6, 0), 2);
        due("would(6, 1), all that it has", x.would(6, 1), 2);
        due("would(6, 3)", x.would(6, 3), 0);
        x.pass(1);
        due("would(4, 2), what came before does not count", x.would(4, 2), 0);
        due("would(4, 0)", x.would(4, 0), 0);
        due("would(5, 0)", x.would(5, 0), 1);
        due("pass(5)", x.pass(5), 1);
        due("would(99, 1)", x.would(99, 1), 0);
    }

    private static void theBoundOfHoursDoesNotMatter() {
        check.sentence("what if; nothing changes (the bound of hours does not matter)");
        BridgeWardens x = valley(9, 9);
        passUpTo(x, 9999);
        x.guess(0, 0, 0);
        due("overIn(0)", x.overIn(0), 6);
        due("would(99, 0)", x.would(99, 0), 1);
        due("would(5, 3)", x.would(5, 3), 1);
        x.guess(1, 0, 1);
        due("next(0)", x.next(0), 1);
        due("why(1)", x.why(1), 0);
        due("why(0)", x.why(0), 4);
        due("overIn(1)", x.overIn(1), 1);
        due("pass(1)", x.pass(1), NOT_POSSIBLE);
        due("count(0)", x.count(0), 9999);
        due("ofCart(1, 0)", x.ofCart(1, 0), 0);
    }

    private static void nothingChanges() {
        check.sentence("what if; nothing changes");
        BridgeWardens x = valley(9, 9);
        x.guess(0, 0, 0);
        x.guess(1, 0, 1);
        String before = Check.state(x);
        x.overIn(0);
        x.overIn(1);
        x.would(99, 0);
        x.next(0);
        x.why(0);
        due("the state", Check.state(x), before);
        x.bridge(0, 1, 1000);
        due("the next riddle", x.ofBridge(1, 3), 624);
        due("count(14)", x.count(14), 6);
    }
}
