import java.util.ArrayDeque;
import java.util.ArrayList;
import java.util.Deque;
import java.util.List;
import java.util.regex.Matcher;
import java.util.regex.Pattern;

/**
 * The document told a second time, without regard for speed and room, to compare the class with: it counts number by
 * number, looks for ways town by town, reads texts by patterns, and copies all of its state.
 */
final class Model {
    private static final String NUMBER = "(?:0|[1-9][0-9]{0,3})";
    private static final String ORDER = "(?:b[0-9][0-9]\\*" + NUMBER + "|c[0-9]\\*" + NUMBER + "|g[0-9]:" + NUMBER + "="
        + NUMBER + "|h[0-9]:" + NUMBER + "|l[0-9]|p" + NUMBER + ")";
    private static final Pattern TEXT = Pattern.compile(ORDER + "(?:;" + ORDER + ")*");

    private static final class Bridge {
        int town, other, size, riddle, till, over, ties;
        List<Integer> line = new ArrayList<>();
    }

    private static final class Cart {
        int town, coins, bridge = -6, guess = -6, waited, over, paid, gifts;
        List<int[]> ranges = new ArrayList<>();
    }

    private static final class State {
        int x = 1, hours, brought, hints;
        int[] settings = {3, 1, 2, 5};
        List<Bridge> bridges = new ArrayList<>();
        List<Cart> carts = new ArrayList<>();

        State copy() {
            State copy = new State();
            copy.x = x;
            copy.hours = hours;
            copy.brought = brought;
            copy.hints = hints;
            copy.settings = settings.clone();
            for (Bridge from : bridges) {
                Bridge to = new Bridge();
                to.town = from.town;
                to.other = from.other;
                to.size = from.size;
                to.riddle = from.riddle;
                to.till = from.till;
                to.over = from.over;
                to.ties = from.ties;
                to.line.addAll(from.line);
                copy.bridges.add(to);
            }
            for (Cart from : carts) {
                Cart to = new Cart();
                to.town = from.town;
                to.coins = from.coins;
                to.bridge = from.bridge;
                to.guess = from.guess;
                to.waited = from.waited;
                to.over = from.over;
                to.paid = from.paid;
                to.gifts = from.gifts;
                for (int[] range : from.ranges) {
                    to.ranges.add(range.clone());
                }
                copy.carts.add(to);
            }
            return copy;
        }
    }

    private State s = new State();
    private String pad = "";
    private final Deque<State> history = new ArrayDeque<>();
    private final State[] slots = new State[2];

    private void record(State before) {
        history.addLast(before);
        if (history.size() > 6) {
            history.removeFirst();
        }
    }

    private int changed(State before, int answer) {
        if (answer >= 0) {
            record(before);
        }
        return answer;
    }

    int set(int setting, int value) {
        return changed(s.copy(), doSet(setting, value));
    }

    private int doSet(int setting, int value) {
        if (setting < 0 || setting > 3 || value < (setting == 3 ? 1 : 0) || value > (setting % 2 == 0 ? 50 : 20)) {
            return -2;
        }
        int old = s.settings[setting];
        s.settings[setting] = value;
        return old;
    }

    int bridge(int town, int other, int size) {
        return changed(s.copy(), doBridge(town, other, size));
    }

    private int doBridge(int town, int other, int size) {
        if (noTown(town) || noTown(other)) {
            return -1;
        }
        if (town == other || size < 2 || size > 1000) {
            return -2;
        }
        if (s.bridges.size() == 12) {
            return -4;
        }
        Bridge bridge = new Bridge();
        bridge.town = town;
        bridge.other = other;
        bridge.size = size;
        s.bridges.add(bridge);
        for (Cart cart : s.carts) {
            cart.ranges.add(new int[] {0, size - 1});
        }
        draw(s.bridges.size() - 1);
        return s.bridges.size() - 1;
    }

    private void draw(int number) {
        Bridge bridge = s.bridges.get(number);
        s.x = (75 * s.x + 74) % 65537;
        bridge.riddle = s.x / 2 % bridge.size;
        for (Cart cart : s.carts) {
            cart.ranges.set(number, new int[] {0, bridge.size - 1});
        }
    }

    int cart(int town, int coins) {
        return changed(s.copy(), doCart(town, coins));
    }

    private int doCart(int town, int coins) {
        if (noTown(town)) {
            return -1;
        }
        if (coins < 0 || coins > 9999) {
            return -2;
        }
        if (s.carts.size() == 8) {
            return -4;
        }
        Cart cart = new Cart();
        cart.town = town;
        cart.coins = coins;
        for (Bridge bridge : s.bridges) {
            cart.ranges.add(new int[] {0, bridge.size - 1});
        }
        s.carts.add(cart);
        s.brought += coins;
        return s.carts.size() - 1;
    }

    int guess(int cart, int bridge, int guess) {
        return changed(s.copy(), doGuess(cart, bridge, guess));
    }

    private int doGuess(int c, int b, int guess) {
        if (noCart(c) || noBridge(b)) {
            return -1;
        }
        Cart cart = s.carts.get(c);
        Bridge bridge = s.bridges.get(b);
        if (guess < 0 || guess >= bridge.size) {
            return -2;
        }
        if (cart.bridge >= 0 || cart.town != bridge.town && cart.town != bridge.other) {
            return -5;
        }
        cart.bridge = b;
        cart.guess = guess;
        cart.waited = 0;
        bridge.line.add(c);
        return bridge.line.size();
    }

    int leave(int cart) {
        return changed(s.copy(), doLeave(cart));
    }

    private int doLeave(int c) {
        if (noCart(c)) {
            return -1;
        }
        int bridge = s.carts.get(c).bridge;
        if (bridge < 0) {
            return -5;
        }
        goAway(c);
        return bridge;
    }

    private void goAway(int c) {
        Cart cart = s.carts.get(c);
        s.bridges.get(cart.bridge).line.remove(Integer.valueOf(c));
        cart.bridge = -6;
        cart.guess = -6;
        cart.waited = 0;
    }

    int hint(int cart, int bridge) {
        return changed(s.copy(), doHint(cart, bridge));
    }

    private int doHint(int c, int b) {
        if (noCart(c) || noBridge(b)) {
            return -1;
        }
        Cart cart = s.carts.get(c);
        Bridge bridge = s.bridges.get(b);
        int[] range = cart.ranges.get(b);
        if (cart.town != bridge.town && cart.town != bridge.other || cart.coins < s.settings[1] || range[0] == range[1]) {
            return -5;
        }
        cart.coins -= s.settings[1];
        cart.paid += s.settings[1];
        bridge.till += s.settings[1];
        s.hints++;
        int m = (range[0] + range[1]) / 2;
        if (bridge.riddle <= m) {
            range[1] = m;
        } else {
            range[0] = m + 1;
        }
        return range[1] - range[0] + 1;
    }

    int pass(int hours) {
        return changed(s.copy(), doPass(hours));
    }

    private int doPass(int hours) {
        if (hours < 1 || hours > 99) {
            return -2;
        }
        if (s.hours + hours > 9999) {
            return -5;
        }
        int over = 0;
        for (int i = 0; i < hours; i++) {
            over += hour();
        }
        return over;
    }

    /** Who comes over, and behind it 1 if it pays BAR, 2 if it pays what it can; -6 if none, 3 if a tie is not paid. */
    private int[] decide(int b) {
        Bridge bridge = s.bridges.get(b);
        if (bridge.line.isEmpty()) {
            return new int[] {-6, 0};
        }
        int first = bridge.line.get(0);
        if (bridge.line.size() == 1) {
            return s.carts.get(first).waited >= s.settings[3] ? new int[] {first, 2} : new int[] {-6, 0};
        }
        int second = bridge.line.get(1);
        int far = Math.abs(s.carts.get(first).guess - bridge.riddle);
        int farther = Math.abs(s.carts.get(second).guess - bridge.riddle);
        if (far != farther) {
            return new int[] {far < farther ? first : second, 0};
        }
        for (int cart : new int[] {Math.min(first, second), Math.max(first, second)}) {
            if (s.carts.get(cart).coins >= s.settings[0]) {
                return new int[] {cart, 1};
            }
        }
        return new int[] {-6, 3};
    }

    private int hour() {
        int over = 0;
        for (int b = 0; b < s.bridges.size(); b++) {
            Bridge bridge = s.bridges.get(b);
            int[] decided = decide(b);
            if (decided[1] == 1 || decided[1] == 3) {
                bridge.ties++;
            }
            if (decided[0] < 0) {
                continue;
            }
            over++;
            Cart cart = s.carts.get(decided[0]);
            int price = decided[1] == 1 ? s.settings[0] : decided[1] == 2 ? Math.min(s.settings[0], cart.coins) : 0;
            cart.coins -= price;
            cart.paid += price;
            bridge.till += price;
            if (cart.guess == bridge.riddle) {
                int gift = Math.min(s.settings[2], bridge.till);
                bridge.till -= gift;
                cart.coins += gift;
                cart.gifts += gift;
            }
            goAway(decided[0]);
            cart.town = bridge.town + bridge.other - cart.town;
            cart.over++;
            bridge.over++;
            draw(b);
        }
        for (Cart cart : s.carts) {
            cart.waited += cart.bridge >= 0 ? 1 : 0;
        }
        s.hours++;
        return over;
    }

    int write(int c) {
        if (noCart(c)) {
            return -1;
        }
        Cart cart = s.carts.get(c);
        String note = "c" + c + "@" + cart.town + "*" + cart.coins;
        for (int b = 0; b < s.bridges.size(); b++) {
            int[] range = cart.ranges.get(b);
            if (range[0] > 0 || range[1] < s.bridges.get(b).size - 1) {
                note += ";" + b + ":" + range[0] + "-" + range[1];
            }
        }
        pad = note.length() > 80 ? note.substring(0, 80) : note;
        return pad.length();
    }

    int ofBridge(int b, int what) {
        if (noBridge(b)) {
            return -1;
        }
        Bridge at = s.bridges.get(b);
        int[] parts = {at.town, at.other, at.size, at.riddle, at.line.size(), at.till, at.over, at.ties};
        return what < 0 || what > 7 ? -2 : parts[what];
    }

    int ofCart(int c, int what) {
        if (noCart(c)) {
            return -1;
        }
        Cart at = s.carts.get(c);
        int[] parts = {at.town, at.coins, at.bridge, at.guess, at.waited, at.over, at.paid, at.gifts};
        return what < 0 || what > 7 ? -2 : parts[what];
    }

    int knows(int c, int b, int end) {
        if (noCart(c) || noBridge(b)) {
            return -1;
        }
        return end < 0 || end > 1 ? -2 : s.carts.get(c).ranges.get(b)[end];
    }

    int waits(int b, int rank) {
        if (noBridge(b) || rank < 0 || rank >= s.bridges.get(b).line.size()) {
            return -1;
        }
        return s.bridges.get(b).line.get(rank);
    }

    int sign(int place) {
        return place < 0 || place >= pad.length() ? -1 : pad.charAt(place);
    }

    int count(int what) {
        if (what < 0 || what > 14) {
            return -2;
        }
        int over = s.bridges.stream().mapToInt(bridge -> bridge.over).sum();
        int coins = s.carts.stream().mapToInt(cart -> cart.coins).sum();
        int tills = s.bridges.stream().mapToInt(bridge -> bridge.till).sum();
        int[] counts = {s.hours, s.bridges.size(), s.carts.size(), waiting(s), over, coins, tills, s.brought, s.hints,
            s.settings[0], s.settings[1], s.settings[2], s.settings[3], pad.length(), history.size()};
        return counts[what];
    }

    private static int waiting(State state) {
        int set = 0;
        for (int c = 0; c < state.carts.size(); c++) {
            set += state.carts.get(c).bridge >= 0 ? 1 << c : 0;
        }
        return set;
    }

    int next(int b) {
        return noBridge(b) ? -1 : decide(b)[0];
    }

    int why(int c) {
        if (noCart(c)) {
            return -1;
        }
        int b = s.carts.get(c).bridge;
        if (b < 0) {
            return 1;
        }
        int[] decided = decide(b);
        int rank = s.bridges.get(b).line.indexOf(c);
        if (decided[0] == c) {
            return 0;
        }
        if (s.bridges.get(b).line.size() == 1) {
            return 2;
        }
        if (rank > 1) {
            return 3;
        }
        return decided[1] == 3 ? 6 : decided[1] == 1 ? 5 : 4;
    }

    int overIn(int c) {
        if (noCart(c)) {
            return -1;
        }
        if (s.carts.get(c).bridge < 0) {
            return -5;
        }
        State before = s;
        s = before.copy();
        int over = s.carts.get(c).over;
        int answer = -6;
        for (int hour = 1; hour <= 100 && answer < 0; hour++) {
            hour();
            answer = s.carts.get(c).over > over ? hour : -6;
        }
        s = before;
        return answer;
    }

    int wins(int c, int b, int guess, int other) {
        if (noCart(c) || noBridge(b)) {
            return -1;
        }
        int size = s.bridges.get(b).size;
        if (guess < 0 || guess >= size || other < 0 || other >= size) {
            return -2;
        }
        int won = 0;
        for (int number = s.carts.get(c).ranges.get(b)[0]; number <= s.carts.get(c).ranges.get(b)[1]; number++) {
            won += Math.abs(number - guess) < Math.abs(number - other) ? 1 : 0;
        }
        return won;
    }

    int bestGuess(int c, int b, int other, int what) {
        if (noCart(c) || noBridge(b)) {
            return -1;
        }
        int size = s.bridges.get(b).size;
        if (other < 0 || other >= size || what < 0 || what > 1) {
            return -2;
        }
        int[] best = {0, wins(c, b, 0, other)};
        for (int guess = 1; guess < size; guess++) {
            int won = wins(c, b, guess, other);
            if (won > best[1]) {
                best = new int[] {guess, won};
            }
        }
        return best[what];
    }

    int route(int from, int to, int what) {
        if (noTown(from) || noTown(to)) {
            return -1;
        }
        if (what < 0 || what > 1) {
            return -2;
        }
        int fewest = way(from, to, 7);
        if (what == 0 || fewest <= 0) {
            return fewest < 0 || what == 1 ? -6 : fewest;
        }
        for (int b = 0; b < s.bridges.size(); b++) {
            Bridge bridge = s.bridges.get(b);
            if (bridge.town == from && way(bridge.other, to, fewest - 1) >= 0
                || bridge.other == from && way(bridge.town, to, fewest - 1) >= 0) {
                return b;
            }
        }
        return -6;
    }

    /** The length of the shortest way of at most so many bridges, -1 if there is none. */
    private int way(int from, int to, int most) {
        int[] far = new int[8];
        for (int town = 0; town < 8; town++) {
            far[town] = town == from ? 0 : 99;
        }
        for (int round = 0; round < 8; round++) {
            for (Bridge bridge : s.bridges) {
                far[bridge.other] = Math.min(far[bridge.other], far[bridge.town] + 1);
                far[bridge.town] = Math.min(far[bridge.town], far[bridge.other] + 1);
            }
        }
        return far[to] <= most ? far[to] : -1;
    }

    int would(int hours, int what) {
        if (hours < 1 || hours > 99 || what < 0 || what > 3) {
            return -2;
        }
        State before = s;
        s = before.copy();
        int over = 0;
        for (int hour = 0; hour < hours; hour++) {
            over += hour();
        }
        int paid = 0;
        int gifts = 0;
        for (int c = 0; c < s.carts.size(); c++) {
            paid += s.carts.get(c).paid - before.carts.get(c).paid;
            gifts += s.carts.get(c).gifts - before.carts.get(c).gifts;
        }
        int[] answers = {over, paid, gifts, waiting(s)};
        s = before;
        return answers[what];
    }

    int put(long characters) {
        StringBuilder signs = new StringBuilder();
        boolean ended = false;
        for (int i = 0; i < 8; i++) {
            int code = (int) (characters >>> 8 * i & 255);
            ended |= code == 0;
            if (ended ? code != 0 : code < 33 || code > 126) {
                return -2;
            }
            if (!ended) {
                signs.insert(0, (char) code);
            }
        }
        if (signs.length() == 0) {
            return -2;
        }
        if (pad.length() + signs.length() > 80) {
            return -4;
        }
        pad += signs;
        return pad.length();
    }

    int wipe() {
        int length = pad.length();
        pad = "";
        return length;
    }

    int fault() {
        for (int end = 1; end <= pad.length(); end++) {
            Matcher start = TEXT.matcher(pad.substring(0, end));
            if (!start.matches() && !start.hitEnd()) {
                return end - 1;
            }
        }
        return TEXT.matcher(pad).matches() ? -6 : pad.length();
    }

    int carryOut() {
        if (!TEXT.matcher(pad).matches()) {
            return -3;
        }
        record(s.copy());
        int carried = 0;
        for (String order : pad.split(";")) {
            if (obey(order) < 0) {
                break;
            }
            carried++;
        }
        pad = "";
        return carried;
    }

    private int obey(String order) {
        String[] words = order.substring(1).split("[*:=]");
        int[] n = new int[3];
        for (int i = 0; i < words.length; i++) {
            n[i] = Integer.parseInt(words[i]);
        }
        return switch (order.charAt(0)) {
            case 'b' -> doBridge(n[0] / 10, n[0] % 10, n[1]);
            case 'c' -> doCart(n[0], n[1]);
            case 'g' -> doGuess(n[0], n[1], n[2]);
            case 'h' -> doHint(n[0], n[1]);
            case 'l' -> doLeave(n[0]);
            default -> doPass(n[0]);
        };
    }

    int undo() {
        if (history.isEmpty()) {
            return -5;
        }
        s = history.removeLast();
        return history.size();
    }

    int save(int slot) {
        if (slot < 0 || slot > 1) {
            return -2;
        }
        slots[slot] = s.copy();
        return s.carts.size();
    }

    int restore(int slot) {
        if (slot < 0 || slot > 1) {
            return -2;
        }
        if (slots[slot] == null) {
            return -5;
        }
        record(s);
        s = slots[slot].copy();
        return s.carts.size();
    }

    private boolean noTown(int town) {
        return town < 0 || town > 7;
    }

    private boolean noCart(int c) {
        return c < 0 || c >= s.carts.size();
    }

    private boolean noBridge(int b) {
        return b < 0 || b >= s.bridges.size();
    }
}
