/** Bridge wardens who open to the nearer guess of a riddle. */
public final class BridgeWardens {
    public static final int NO_SUCH = -1, BAD_VALUE = -2, BAD_TEXT = -3, TOO_MANY = -4, NOT_POSSIBLE = -5, NONE = -6;
    public static final int BAR = 0, HINT = 1, GIFT = 2, WAIT = 3;

    private static final int SETTINGS = 4;
    private static final int[] LEAST_SETTINGS = {0, 0, 0, 1};
    private static final int[] MOST_SETTINGS = {50, 20, 50, 20};
    private static final int[] FIRST_SETTINGS = {3, 1, 2, 5};

    private static final int TOWNS = 8, MOST_BRIDGES = 12, MOST_CARTS = 8;
    private static final int LEAST_SIZE = 2, MOST_SIZE = 1000, MOST_COINS = 9999;
    private static final int MOST_HOURS = 9999, MOST_HOURS_AT_ONCE = 99, HOURS_FORESEEN = 100;
    private static final int MOST_SIGNS = 80, SIGNS_AT_ONCE = 8, FIRST_SIGN = 33, LAST_SIGN = 126;
    private static final int MOST_UNDONE = 6, SLOTS = 2;

    // How many things ofBridge(), ofCart(), count() and would() tell, and the numbers of those that are summed up.
    private static final int BRIDGE_PARTS = 8, CART_PARTS = 8, COUNTS = 15, FORECASTS = 4;
    private static final int TILL = 5, CROSSINGS = 6;
    private static final int COINS = 1, PAID = 6, GIFTS = 7;

    private final World now = new World();
    private final World trial = new World();
    private final History history = new History();
    private final World[] slots = {new World(), new World()};
    private final boolean[] saved = new boolean[SLOTS];
    private final Pad pad = new Pad();
    private final OrderReader orders = new OrderReader(pad);

    public BridgeWardens() {
    }

    // ---- changes

    public int set(int setting, int value) {
        history.note(now);
        return recorded(now.changeSetting(setting, value));
    }

    public int bridge(int town, int other, int size) {
        history.note(now);
        return recorded(now.addBridge(town, other, size));
    }

    public int cart(int town, int coins) {
        history.note(now);
        return recorded(now.addCart(town, coins));
    }

    public int guess(int cart, int bridge, int guess) {
        history.note(now);
        return recorded(now.comeToWait(cart, bridge, guess));
    }

    public int leave(int cart) {
        history.note(now);
        return recorded(now.stopWaiting(cart));
    }

    public int hint(int cart, int bridge) {
        history.note(now);
        return recorded(now.buyHint(cart, bridge));
    }

    public int pass(int hours) {
        history.note(now);
        return recorded(now.passHours(hours));
    }

    public int write(int cart) {
        Cart told = now.cartOf(cart);
        if (told == null) {
            return NO_SUCH;
        }
        pad.clear();
        appendNote(told);
        return pad.length;
    }

    // ---- what there is

    public int ofBridge(int bridge, int what) {
        Bridge asked = now.bridgeOf(bridge);
        if (asked == null) {
            return NO_SUCH;
        }
        return isBelow(what, BRIDGE_PARTS) ? asked.part(what) : BAD_VALUE;
    }

    public int ofCart(int cart, int what) {
        Cart asked = now.cartOf(cart);
        if (asked == null) {
            return NO_SUCH;
        }
        return isBelow(what, CART_PARTS) ? asked.part(what) : BAD_VALUE;
    }

    public int knows(int cart, int bridge, int end) {
        Cart asked = now.cartOf(cart);
        Bridge about = now.bridgeOf(bridge);
        if (asked == null || about == null) {
            return NO_SUCH;
        }
        if (!isBelow(end, 2)) {
            return BAD_VALUE;
        }
        return end == 0 ? asked.lowest(about) : asked.highest(about);
    }

    public int waits(int bridge, int rank) {
        Bridge asked = now.bridgeOf(bridge);
        if (asked == null || !isBelow(rank, asked.waiting)) {
            return NO_SUCH;
        }
        return numberOf(now.waiterAt(asked, rank), NO_SUCH);
    }

    public int sign(int place) {
        return pad.codeAt(place);
    }

    public int count(int what) {
        if (!isBelow(what, COUNTS)) {
            return BAD_VALUE;
        }
        switch (what) {
            case 13:
                return pad.length;
            case 14:
                return history.undoable;
            default:
                return now.total(what);
        }
    }

    // ---- what if

    public int next(int bridge) {
        Bridge asked = now.bridgeOf(bridge);
        return asked == null ? NO_SUCH : numberOf(now.comerOver(asked), NONE);
    }

    public int why(int cart) {
        Cart asked = now.cartOf(cart);
        return asked == null ? NO_SUCH : now.reasonToStay(asked);
    }

    public int overIn(int cart) {
        trial.copyFrom(now);
        Cart watched = trial.cartOf(cart);
        if (watched == null) {
            return NO_SUCH;
        }
        if (!watched.isWaiting()) {
            return NOT_POSSIBLE;
        }
        for (int hour = 1; hour <= HOURS_FORESEEN; hour++) {
            trial.playHour();
            if (!watched.isWaiting()) {
                return hour;
            }
        }
        return NONE;
    }

    public int wins(int cart, int bridge, int guess, int other) {
        Cart knower = now.cartOf(cart);
        Bridge about = now.bridgeOf(bridge);
        if (knower == null || about == null) {
            return NO_SUCH;
        }
        if (!isBelow(guess, about.size) || !isBelow(other, about.size)) {
            return BAD_VALUE;
        }
        return knower.numbersNearer(about, guess, other);
    }

    public int bestGuess(int cart, int bridge, int other, int what) {
        Cart knower = now.cartOf(cart);
        Bridge about = now.bridgeOf(bridge);
        if (knower == null || about == null) {
            return NO_SUCH;
        }
        if (!isBelow(other, about.size) || !isBelow(what, 2)) {
            return BAD_VALUE;
        }
        int best = 0;
        int most = 0;
        for (int guess = 0; guess < about.size; guess++) {
            int won = knower.numbersNearer(about, guess, other);
            if (won > most) {
                best = guess;
                most = won;
            }
        }
        return what == 0 ? best : most;
    }

    public int route(int from, int to, int what) {
        if (!isBelow(from, TOWNS) || !isBelow(to, TOWNS)) {
            return NO_SUCH;
        }
        if (!isBelow(what, 2)) {
            return BAD_VALUE;
        }
        int steps = now.stepsBetween(from, to);
        if (what == 0 || steps == NONE) {
            return steps;
        }
        return now.firstBridge(from, to, steps);
    }

    public int would(int hours, int what) {
        if (hours < 1 || hours > MOST_HOURS_AT_ONCE || !isBelow(what, FORECASTS)) {
            return BAD_VALUE;
        }
        trial.copyFrom(now);
        int over = 0;
        for (int hour = 0; hour < hours; hour++) {
            over += trial.playHour();
        }
        switch (what) {
            case 0:
                return over;
            case 1:
                return trial.sumOverCarts(PAID) - now.sumOverCarts(PAID);
            case 2:
                return trial.sumOverCarts(GIFTS) - now.sumOverCarts(GIFTS);
            default:
                return trial.waitingSet();
        }
    }

    // ---- texts

    public int put(long characters) {
        int signs = signsIn(characters);
        if (signs == 0) {
            return BAD_VALUE;
        }
        if (pad.length + signs > MOST_SIGNS) {
            return TOO_MANY;
        }
        for (int left = signs - 1; left >= 0; left--) {
            pad.append((int) (characters >>> (8 * left)) & 255);
        }
        return pad.length;
    }

    public int wipe() {
        int length = pad.length;
        pad.clear();
        return length;
    }

    public int fault() {
        return orders.faultPlace();
    }

    public int carryOut() {
        if (orders.faultPlace() != NONE) {
            return BAD_TEXT;
        }
        history.note(now);
        int carried = 0;
        orders.goToStart();
        while (carried < MOST_SIGNS && orders.readOrder() && obey() >= 0) {
            carried++;
            orders.readSign(';');
        }
        pad.clear();
        return recorded(carried);
    }

    // ---- undo, saving

    public int undo() {
        if (history.undoable == 0) {
            return NOT_POSSIBLE;
        }
        history.takeBack(now);
        return history.undoable;
    }

    public int save(int slot) {
        if (!isBelow(slot, SLOTS)) {
            return BAD_VALUE;
        }
        slots[slot].copyFrom(now);
        saved[slot] = true;
        return now.cartCount;
    }

    public int restore(int slot) {
        if (!isBelow(slot, SLOTS)) {
            return BAD_VALUE;
        }
        if (!saved[slot]) {
            return NOT_POSSIBLE;
        }
        history.note(now);
        now.copyFrom(slots[slot]);
        return recorded(now.cartCount);
    }

    // ---- helpers

    private static boolean isBelow(int number, int bound) {
        return number >= 0 && number < bound;
    }

    private static int numberOf(Cart cart, int ifNone) {
        return cart == null ? ifNone : cart.number;
    }

    /** Keeps the state that was noted ahead of a change, unless the change was refused. */
    private int recorded(int answer) {
        if (answer >= 0) {
            history.keepNoted();
        }
        return answer;
    }

    /** How many characters the number gives, 0 if it does not give any or not rightly. */
    private static int signsIn(long characters) {
        long rest = characters;
        int signs = 0;
        while (signs < SIGNS_AT_ONCE && rest != 0) {
            int code = (int) rest & 255;
            if (code < FIRST_SIGN || code > LAST_SIGN) {
                return 0;
            }
            signs++;
            rest >>>= 8;
        }
        return signs;
    }

    private void appendNote(Cart cart) {
        pad.append('c');
        pad.appendNumber(cart.number);
        pad.append('@');
        pad.appendNumber(cart.town);
        pad.append('*');
        pad.appendNumber(cart.coins);
        for (int i = 0; i < MOST_BRIDGES; i++) {
            Bridge bridge = now.bridgeOf(i);
            if (bridge != null && cart.numbersLeft(bridge) < bridge.size) {
                pad.append(';');
                pad.appendNumber(i);
                pad.append(':');
                pad.appendNumber(cart.lowest(bridge));
                pad.append('-');
                pad.appendNumber(cart.highest(bridge));
            }
        }
    }

    /** Carries out the order that was read last; it records nothing by itself. */
    private int obey() {
        switch (orders.kind) {
            case 'b':
                return now.addBridge(orders.first, orders.second, orders.third);
            case 'c':
                return now.addCart(orders.first, orders.second);
            case 'g':
                return now.comeToWait(orders.first, orders.second, orders.third);
            case 'h':
                return now.buyHint(orders.first, orders.second);
            case 'l':
                return now.stopWaiting(orders.first);
            default:
                return now.passHours(orders.first);
        }
    }

    /** A bridge with its warden; until it comes it is not asked about anything. */
    private static final class Bridge {
        final int number;
        int town;
        int other;
        int size;
        int riddle;
        int waiting;
        int till;
        int crossings;
        int ties;

        Bridge(int number) {
            this.number = number;
        }

        void copyFrom(Bridge from) {
            town = from.town;
            other = from.other;
            size = from.size;
            riddle = from.riddle;
            waiting = from.waiting;
            till = from.till;
            crossings = from.crossings;
            ties = from.ties;
        }

        int part(int what) {
            switch (what) {
                case 0:
                    return town;
                case 1:
                    return other;
                case 2:
                    return size;
                case 3:
                    return riddle;
                case 4:
                    return waiting;
                case TILL:
                    return till;
                case CROSSINGS:
                    return crossings;
                default:
                    return ties;
            }
        }

        boolean isAt(int place) {
            return town == place || other == place;
        }

        int farFrom(int place) {
            return town == place ? other : town;
        }

        int endsSet() {
            return 1 << town | 1 << other;
        }

        int distance(int guess) {
            return Math.abs(guess - riddle);
        }

        void takeRiddle(int drawn) {
            riddle = size > 0 ? drawn % size : 0;
        }
    }

    /** A cart, with the ranges that it knows of all bridges. */
    private static final class Cart {
        final int number;
        int town;
        int coins;
        int bridge = NONE;
        int guess = NONE;
        int waited;
        int crossings;
        int paid;
        int gifts;
        private final int[] lowerEnds = new int[MOST_BRIDGES];
        private final int[] upperEnds = new int[MOST_BRIDGES];

        Cart(int number) {
            this.number = number;
        }

        void copyFrom(Cart from) {
            town = from.town;
            coins = from.coins;
            bridge = from.bridge;
            guess = from.guess;
            waited = from.waited;
            crossings = from.crossings;
            paid = from.paid;
            gifts = from.gifts;
            System.arraycopy(from.lowerEnds, 0, lowerEnds, 0, MOST_BRIDGES);
            System.arraycopy(from.upperEnds, 0, upperEnds, 0, MOST_BRIDGES);
        }

        int part(int what) {
            switch (what) {
                case 0:
                    return town;
                case COINS:
                    return coins;
                case 2:
                    return bridge;
                case 3:
                    return guess;
                case 4:
                    return waited;
                case 5:
                    return crossings;
                case PAID:
                    return paid;
                default:
                    return gifts;
            }
        }

        boolean isWaiting() {
            return bridge != NONE;
        }

        int lowest(Bridge about) {
            return lowerEnds[about.number];
        }

        int highest(Bridge about) {
            return upperEnds[about.number];
        }

        int numbersLeft(Bridge about) {
            return highest(about) - lowest(about) + 1;
        }

        void forget(Bridge about) {
            lowerEnds[about.number] = 0;
            upperEnds[about.number] = about.size - 1;
        }

        void halve(Bridge about) {
            int middle = (lowest(about) + highest(about)) / 2;
            if (about.riddle <= middle) {
                upperEnds[about.number] = middle;
            } else {
                lowerEnds[about.number] = middle + 1;
            }
        }

        /** A number is nearer to the lower of two guesses if twice the number is less than both together. */
        int numbersNearer(Bridge about, int mine, int theirs) {
            int both = mine + theirs;
            if (mine < theirs) {
                return Math.max(0, Math.min(highest(about), (both - 1) / 2) - lowest(about) + 1);
            }
            if (mine > theirs) {
                return Math.max(0, highest(about) - Math.max(lowest(about), both / 2 + 1) + 1);
            }
            return 0;
        }

        void pay(int price, Bridge to) {
            coins -= price;
            paid += price;
            to.till += price;
        }

        void takeGift(int most, Bridge from) {
            int gift = Math.min(most, from.till);
            from.till -= gift;
            coins += gift;
            gifts += gift;
        }
    }

    /** All that undo and the slots bring back, and the rules by which it changes. */
    private static final class World {
        private final int[] settings = new int[SETTINGS];
        private final Bridge[] bridges = new Bridge[MOST_BRIDGES];
        private final Cart[] carts = new Cart[MOST_CARTS];
        /** The carts that wait, at whatever bridge, in the order in which they came to wait. */
        private final int[] line = new int[MOST_CARTS];
        private int lineLength;
        private int bridgeCount;
        int cartCount;
        private int seed = 1;
        private int hours;
        private int coinsBrought;
        private int hints;

        World() {
            System.arraycopy(FIRST_SETTINGS, 0, settings, 0, SETTINGS);
            for (int i = 0; i < MOST_BRIDGES; i++) {
                bridges[i] = new Bridge(i);
            }
            for (int i = 0; i < MOST_CARTS; i++) {
                carts[i] = new Cart(i);
            }
        }

        /** Copies also the bridges and carts that have not come yet, so that these stay as new. */
        void copyFrom(World from) {
            System.arraycopy(from.settings, 0, settings, 0, SETTINGS);
            System.arraycopy(from.line, 0, line, 0, MOST_CARTS);
            for (int i = 0; i < MOST_BRIDGES; i++) {
                bridges[i].copyFrom(from.bridges[i]);
            }
            for (int i = 0; i < MOST_CARTS; i++) {
                carts[i].copyFrom(from.carts[i]);
            }
            lineLength = from.lineLength;
            bridgeCount = from.bridgeCount;
            cartCount = from.cartCount;
            seed = from.seed;
            hours = from.hours;
            coinsBrought = from.coinsBrought;
            hints = from.hints;
        }

        Bridge bridgeOf(int number) {
            return isBelow(number, bridgeCount) ? bridges[number] : null;
        }

        Cart cartOf(int number) {
            return isBelow(number, cartCount) ? carts[number] : null;
        }

        // Changes: each of these changes nothing if it answers with an error.

        int changeSetting(int setting, int value) {
            if (!isBelow(setting, SETTINGS) || value < LEAST_SETTINGS[setting] || value > MOST_SETTINGS[setting]) {
                return BAD_VALUE;
            }
            int previous = settings[setting];
            settings[setting] = value;
            return previous;
        }

        int addBridge(int town, int other, int size) {
            if (!isBelow(town, TOWNS) || !isBelow(other, TOWNS)) {
                return NO_SUCH;
            }
            if (town == other || size < LEAST_SIZE || size > MOST_SIZE) {
                return BAD_VALUE;
            }
            if (bridgeCount >= MOST_BRIDGES) {
                return TOO_MANY;
            }
            Bridge bridge = bridges[bridgeCount];
            bridge.town = town;
            bridge.other = other;
            bridge.size = size;
            drawRiddle(bridge);
            bridgeCount++;
            return bridge.number;
        }

        int addCart(int town, int coins) {
            if (!isBelow(town, TOWNS)) {
                return NO_SUCH;
            }
            if (coins < 0 || coins > MOST_COINS) {
                return BAD_VALUE;
            }
            if (cartCount >= MOST_CARTS) {
                return TOO_MANY;
            }
            Cart cart = carts[cartCount];
            cart.town = town;
            cart.coins = coins;
            coinsBrought += coins;
            cartCount++;
            return cart.number;
        }

        int comeToWait(int cart, int bridge, int guess) {
            Cart comer = cartOf(cart);
            Bridge place = bridgeOf(bridge);
            if (comer == null || place == null) {
                return NO_SUCH;
            }
            if (!isBelow(guess, place.size)) {
                return BAD_VALUE;
            }
            if (comer.isWaiting() || !place.isAt(comer.town) || lineLength >= MOST_CARTS) {
                return NOT_POSSIBLE;
            }
            line[lineLength] = cart;
            lineLength++;
            comer.bridge = bridge;
            comer.guess = guess;
            place.waiting++;
            return place.waiting;
        }

        int stopWaiting(int cart) {
            Cart leaver = cartOf(cart);
            if (leaver == null) {
                return NO_SUCH;
            }
            Bridge place = bridgeOf(leaver.bridge);
            if (place == null) {
                return NOT_POSSIBLE;
            }
            release(leaver, place);
            return place.number;
        }

        int buyHint(int cart, int bridge) {
            Cart asker = cartOf(cart);
            Bridge about = bridgeOf(bridge);
            if (asker == null || about == null) {
                return NO_SUCH;
            }
            int price = settings[HINT];
            if (!about.isAt(asker.town) || asker.coins < price || asker.numbersLeft(about) == 1) {
                return NOT_POSSIBLE;
            }
            asker.pay(price, about);
            asker.halve(about);
            hints++;
            return asker.numbersLeft(about);
        }

        int passHours(int count) {
            if (count < 1 || count > MOST_HOURS_AT_ONCE) {
                return BAD_VALUE;
            }
            if (hours + count > MOST_HOURS) {
                return NOT_POSSIBLE;
            }
            int over = 0;
            for (int hour = 0; hour < count; hour++) {
                over += playHour();
            }
            return over;
        }

        // An hour.

        /** Answers how many carts came over. */
        int playHour() {
            int over = 0;
            for (int i = 0; i < bridgeCount; i++) {
                over += letOver(bridges[i]);
            }
            for (int i = 0; i < cartCount; i++) {
                if (carts[i].isWaiting()) {
                    carts[i].waited++;
                }
            }
            hours++;
            return over;
        }

        private int letOver(Bridge bridge) {
            boolean tied = isTied(bridge);
            Cart comer = comerOver(bridge);
            if (tied) {
                bridge.ties++;
            }
            if (comer == null) {
                return 0;
            }
            if (tied || bridge.waiting == 1) {
                comer.pay(Math.min(settings[BAR], comer.coins), bridge);
            }
            if (comer.guess == bridge.riddle) {
                comer.takeGift(settings[GIFT], bridge);
            }
            release(comer, bridge);
            comer.town = bridge.farFrom(comer.town);
            comer.crossings++;
            bridge.crossings++;
            drawRiddle(bridge);
            return 1;
        }

        /** The cart that comes over the bridge in the next hour, null if none does. */
        Cart comerOver(Bridge bridge) {
            Cart first = waiterAt(bridge, 0);
            Cart second = waiterAt(bridge, 1);
            if (first == null) {
                return null;
            }
            if (second == null) {
                return first.waited >= settings[WAIT] ? first : null;
            }
            int lead = bridge.distance(second.guess) - bridge.distance(first.guess);
            if (lead == 0) {
                return payerOfTie(first, second);
            }
            return lead > 0 ? first : second;
        }

        private boolean isTied(Bridge bridge) {
            Cart first = waiterAt(bridge, 0);
            Cart second = waiterAt(bridge, 1);
            return first != null && second != null
                    && bridge.distance(first.guess) == bridge.distance(second.guess);
        }

        private Cart payerOfTie(Cart one, Cart two) {
            Cart lower = one.number < two.number ? one : two;
            Cart higher = one.number < two.number ? two : one;
            if (lower.coins >= settings[BAR]) {
                return lower;
            }
            return higher.coins >= settings[BAR] ? higher : null;
        }

        private void release(Cart cart, Bridge bridge) {
            int kept = 0;
            for (int i = 0; i < lineLength; i++) {
                if (line[i] != cart.number) {
                    line[kept] = line[i];
                    kept++;
                }
            }
            lineLength = kept;
            cart.bridge = NONE;
            cart.guess = NONE;
            cart.waited = 0;
            bridge.waiting--;
        }

        private void drawRiddle(Bridge bridge) {
            seed = (75 * seed + 74) % 65537;
            bridge.takeRiddle(seed / 2);
            for (int i = 0; i < MOST_CARTS; i++) {
                carts[i].forget(bridge);
            }
        }

        // What there is.

        /** The cart that came to wait there as the rank-th one, null if not so many wait. */
        Cart waiterAt(Bridge bridge, int rank) {
            int ahead = 0;
            for (int i = 0; i < lineLength; i++) {
                int number = line[i];
                if (isBelow(number, cartCount) && carts[number].bridge == bridge.number) {
                    if (ahead == rank) {
                        return carts[number];
                    }
                    ahead++;
                }
            }
            return null;
        }

        int reasonToStay(Cart cart) {
            Bridge bridge = bridgeOf(cart.bridge);
            if (bridge == null) {
                return 1;
            }
            Cart comer = comerOver(bridge);
            if (comer == cart) {
                return 0;
            }
            if (bridge.waiting == 1) {
                return 2;
            }
            if (waiterAt(bridge, 0) != cart && waiterAt(bridge, 1) != cart) {
                return 3;
            }
            if (!isTied(bridge)) {
                return 4;
            }
            return comer == null ? 6 : 5;
        }

        /** One of the numbers that count() tells, but for those of the pad and the history. */
        int total(int what) {
            switch (what) {
                case 0:
                    return hours;
                case 1:
                    return bridgeCount;
                case 2:
                    return cartCount;
                case 3:
                    return waitingSet();
                case 4:
                    return sumOverBridges(CROSSINGS);
                case 5:
                    return sumOverCarts(COINS);
                case 6:
                    return sumOverBridges(TILL);
                case 7:
                    return coinsBrought;
                case 8:
                    return hints;
                default:
                    int setting = what - 9;
                    return isBelow(setting, SETTINGS) ? settings[setting] : BAD_VALUE;
            }
        }

        int waitingSet() {
            int set = 0;
            for (int i = 0; i < cartCount; i++) {
                if (carts[i].isWaiting()) {
                    set |= 1 << i;
                }
            }
            return set;
        }

        int sumOverCarts(int part) {
            int sum = 0;
            for (int i = 0; i < cartCount; i++) {
                sum += carts[i].part(part);
            }
            return sum;
        }

        private int sumOverBridges(int part) {
            int sum = 0;
            for (int i = 0; i < bridgeCount; i++) {
                sum += bridges[i].part(part);
            }
            return sum;
        }

        // Routes.

        /** By how few bridges one comes from a town to another one, NONE if there is no way. */
        int stepsBetween(int from, int to) {
            int reached = 1 << from;
            for (int steps = 0; steps < TOWNS; steps++) {
                if ((reached >> to & 1) == 1) {
                    return steps;
                }
                reached = withNeighbours(reached);
            }
            return NONE;
        }

        private int withNeighbours(int towns) {
            int wider = towns;
            for (int i = 0; i < bridgeCount; i++) {
                int ends = bridges[i].endsSet();
                if ((towns & ends) != 0) {
                    wider |= ends;
                }
            }
            return wider;
        }

        /** The lowest bridge by which a way of so many steps begins, NONE if there is none (or no step to take). */
        int firstBridge(int from, int to, int steps) {
            for (int i = 0; i < bridgeCount; i++) {
                Bridge bridge = bridges[i];
                if (bridge.isAt(from) && stepsBetween(bridge.farFrom(from), to) == steps - 1) {
                    return i;
                }
            }
            return NONE;
        }
    }

    /** The states before the latest changes, and a spare one: a refused change must not cost the oldest. */
    private static final class History {
        private static final int PLACES = MOST_UNDONE + 1;
        private final World[] states = new World[PLACES];
        private int spare;
        int undoable;

        History() {
            for (int i = 0; i < PLACES; i++) {
                states[i] = new World();
            }
        }

        void note(World world) {
            states[spare].copyFrom(world);
        }

        void keepNoted() {
            spare = (spare + 1) % PLACES;
            undoable = Math.min(undoable + 1, MOST_UNDONE);
        }

        void takeBack(World world) {
            spare = (spare + PLACES - 1) % PLACES;
            undoable--;
            world.copyFrom(states[spare]);
        }
    }

    /** A text of some characters; what does not fit any more is left out. */
    private static final class Pad {
        private final int[] codes = new int[MOST_SIGNS];
        int length;

        void clear() {
            length = 0;
        }

        int codeAt(int place) {
            return place >= 0 && place < length ? codes[place] : NO_SUCH;
        }

        void append(int code) {
            if (length < MOST_SIGNS) {
                codes[length] = code;
                length++;
            }
        }

        void appendNumber(int number) {
            for (int unit = 1000000000; unit >= 1; unit /= 10) {
                if (number >= unit || unit == 1) {
                    append('0' + number / unit % 10);
                }
            }
        }
    }

    /** Reads orders from the pad; where it fails, it stands at the character that cannot stand there. */
    private static final class OrderReader {
        private static final int MOST_DIGITS = 4;
        private final Pad pad;
        private int place;
        int kind;
        int first;
        int second;
        int third;

        OrderReader(Pad pad) {
            this.pad = pad;
        }

        void goToStart() {
            place = 0;
        }

        /** The place of the first fault of the whole text, NONE if there is none. */
        int faultPlace() {
            goToStart();
            for (int order = 0; order < MOST_SIGNS && readOrder(); order++) {
                if (place == pad.length) {
                    return NONE;
                }
                if (!readSign(';')) {
                    return place;
                }
            }
            return place;
        }

        boolean readOrder() {
            kind = pad.codeAt(place);
            if (!isKind(kind)) {
                return false;
            }
            place++;
            switch (kind) {
                case 'b':
                    return readDigitPair() && readSign('*') && readThird();
                case 'c':
                    return readDigit() && readSign('*') && readSecond();
                case 'g':
                    return readDigit() && readSign(':') && readSecond() && readSign('=') && readThird();
                case 'h':
                    return readDigit() && readSign(':') && readSecond();
                case 'l':
                    return readDigit();
                default:
                    first = readNumber();
                    return first != NONE;
            }
        }

        boolean readSign(int code) {
            boolean stands = pad.codeAt(place) == code;
            if (stands) {
                place++;
            }
            return stands;
        }

        private static boolean isKind(int code) {
            return code == 'b' || code == 'c' || code == 'g' || code == 'h' || code == 'l' || code == 'p';
        }

        private boolean readDigit() {
            first = nextDigit();
            return first != NONE;
        }

        private boolean readDigitPair() {
            if (!readDigit()) {
                return false;
            }
            second = nextDigit();
            return second != NONE;
        }

        private boolean readSecond() {
            second = readNumber();
            return second != NONE;
        }

        private boolean readThird() {
            third = readNumber();
            return third != NONE;
        }

        /** A digit too many, or behind a leading zero, is not read: then it stands where it cannot. */
        private int readNumber() {
            int number = nextDigit();
            if (number == NONE || number == 0) {
                return number;
            }
            for (int digits = 1; digits < MOST_DIGITS; digits++) {
                int digit = nextDigit();
                if (digit == NONE) {
                    return number;
                }
                number = 10 * number + digit;
            }
            return number;
        }

        private int nextDigit() {
            int code = pad.codeAt(place);
            if (code < '0' || code > '9') {
                return NONE;
            }
            place++;
            return code - '0';
        }
    }
}
