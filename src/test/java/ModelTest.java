/**
 * Long runs of calls by chance, the same ones each time, on the class and on the model: all answers are alike. A run ends
 * ahead of the 512th call, as nothing is promised behind it.
 */
public final class ModelTest {
    private static final int RUNS = 2400;
    private static final int CALLS = 512;
    private static final int CALLS_OF_LONGEST_STEP = 83;
    private static final int MOST_TOLD = 20;
    private static final Check check = new Check("ModelTest");

    private final int run;
    private final int towns;
    private final int size;
    private final int coins;
    private final BridgeWardens real = new BridgeWardens();
    private final Model model = new Model();
    private long dice;
    private int calls;

    private ModelTest(int run) {
        this.run = run;
        dice = 7919L * run + 1;
        towns = 2 + roll(7);
        size = roll(3) == 0 ? 1000 : 2 + roll(12);
        coins = roll(3) == 0 ? 9999 : roll(2) == 0 ? 9 : 120;
    }

    public static void main(String[] args) {
        for (int run = 0; run < RUNS && check.wrong() < MOST_TOLD; run++) {
            ModelTest test = new ModelTest(run);
            while (test.calls <= CALLS - CALLS_OF_LONGEST_STEP && check.wrong() < MOST_TOLD) {
                test.step();
            }
        }
        check.end();
    }

    private int roll(int sides) {
        dice = dice * 6364136223846793005L + 1442695040888963407L;
        return (int) ((dice >>> 33) % sides);
    }

    /** Mostly a number from 0 to sides - 1; now and then one beside them, or far from them. */
    private int near(int sides) {
        int chance = roll(40);
        if (chance == 0) {
            return -1 - roll(2);
        }
        if (chance == 1) {
            return sides + roll(2);
        }
        if (chance == 2 && roll(4) == 0) {
            return roll(2) == 0 ? Integer.MIN_VALUE : Integer.MAX_VALUE;
        }
        return roll(Math.max(1, sides));
    }

    private int town() {
        return roll(20) == 0 ? near(8) : roll(towns);
    }

    private int cart() {
        return near(model.count(2));
    }

    private int bridge() {
        return near(model.count(1));
    }

    /** A bridge at the town of a cart, if there is one. */
    private int bridgeAt(int cart) {
        int town = model.ofCart(cart, 0);
        int from = roll(12);
        for (int i = 0; i < 12 && roll(30) > 0; i++) {
            int bridge = (from + i) % 12;
            if (model.ofBridge(bridge, 0) == town || model.ofBridge(bridge, 1) == town) {
                return bridge;
            }
        }
        return bridge();
    }

    private int sizeOf(int bridge) {
        return Math.max(1, model.ofBridge(bridge, 2));
    }

    private void due(String name, long got, long want) {
        check.due("run " + run + ", call " + calls + ": " + name, got, want);
        calls++;
    }

    private void step() {
        if (calls < 12) {
            start();
        } else if (roll(100) < 55) {
            change();
        } else if (roll(100) < 45) {
            ask();
        } else if (roll(100) < 55) {
            foresee();
        } else {
            texts();
        }
    }

    private void start() {
        if (calls % 2 == 0) {
            bringBridge();
        } else {
            bringCart();
        }
    }

    private void bringBridge() {
        int a = town();
        int b = town();
        int c = roll(15) == 0 ? near(1001) : Math.max(2, Math.min(1000, size + roll(5)));
        due("bridge(" + a + ", " + b + ", " + c + ")", real.bridge(a, b, c), model.bridge(a, b, c));
    }

    private void bringCart() {
        int a = town();
        int b = roll(15) == 0 ? near(10000) : roll(coins + 1);
        due("cart(" + a + ", " + b + ")", real.cart(a, b), model.cart(a, b));
    }

    private void change() {
        int a = cart();
        int b = bridgeAt(a);
        int c = near(sizeOf(b));
        switch (roll(22)) {
            case 0:
                bringBridge();
                break;
            case 1:
                bringCart();
                break;
            case 2:
                a = near(4);
                b = roll(2) == 0 ? near(6) : near(51);
                due("set(" + a + ", " + b + ")", real.set(a, b), model.set(a, b));
                break;
            case 3:
                due("leave(" + a + ")", real.leave(a), model.leave(a));
                break;
            case 4, 5, 6, 7:
                due("hint(" + a + ", " + b + ")", real.hint(a, b), model.hint(a, b));
                break;
            case 8, 9, 10, 11:
                a = roll(30) == 0 ? near(100) : roll(15) == 0 ? 1 + roll(99) : 1 + roll(3);
                due("pass(" + a + ")", real.pass(a), model.pass(a));
                break;
            case 12:
                due("undo()", real.undo(), model.undo());
                break;
            case 13:
                a = near(2);
                due("save(" + a + ")", real.save(a), model.save(a));
                break;
            case 14:
                a = roll(4) == 0 ? near(2) : -1;
                due("restore(" + a + ")", real.restore(a), model.restore(a));
                break;
            default:
                if (roll(3) == 0 && model.ofBridge(b, 3) >= 0) {
                    c = model.ofBridge(b, 3);
                }
                due("guess(" + a + ", " + b + ", " + c + ")", real.guess(a, b, c), model.guess(a, b, c));
        }
    }

    private void ask() {
        int a = cart();
        int b = bridge();
        int c = near(8);
        switch (roll(8)) {
            case 0, 1:
                due("ofBridge(" + b + ", " + c + ")", real.ofBridge(b, c), model.ofBridge(b, c));
                break;
            case 2, 3:
                due("ofCart(" + a + ", " + c + ")", real.ofCart(a, c), model.ofCart(a, c));
                break;
            case 4:
                c = near(2);
                due("knows(" + a + ", " + b + ", " + c + ")", real.knows(a, b, c), model.knows(a, b, c));
                break;
            case 5:
                c = near(3);
                due("waits(" + b + ", " + c + ")", real.waits(b, c), model.waits(b, c));
                break;
            case 6:
                c = near(model.count(13));
                due("sign(" + c + ")", real.sign(c), model.sign(c));
                break;
            default:
                c = near(15);
                due("count(" + c + ")", real.count(c), model.count(c));
        }
    }

    private void foresee() {
        int a = cart();
        int b = bridge();
        int c = near(sizeOf(b));
        int d = near(sizeOf(b));
        int e = near(2);
        switch (roll(8)) {
            case 0:
                due("next(" + b + ")", real.next(b), model.next(b));
                break;
            case 1:
                due("why(" + a + ")", real.why(a), model.why(a));
                break;
            case 2:
                due("overIn(" + a + ")", real.overIn(a), model.overIn(a));
                break;
            case 3:
                due("wins(" + a + ", " + b + ", " + c + ", " + d + ")", real.wins(a, b, c, d),
                    model.wins(a, b, c, d));
                break;
            case 4:
                due("bestGuess(" + a + ", " + b + ", " + c + ", " + e + ")", real.bestGuess(a, b, c, e),
                    model.bestGuess(a, b, c, e));
                break;
            case 5:
                a = near(8);
                b = near(8);
                due("route(" + a + ", " + b + ", " + e + ")", real.route(a, b, e), model.route(a, b, e));
                break;
            default:
                a = roll(3) == 0 ? near(100) : 1 + roll(9);
                b = near(4);
                due("would(" + a + ", " + b + ")", real.would(a, b), model.would(a, b));
        }
    }

    private void texts() {
        switch (roll(7)) {
            case 0:
                int cart = cart();
                due("write(" + cart + ")", real.write(cart), model.write(cart));
                if (roll(6) == 0) {
                    readPad();
                }
                break;
            case 1:
                due("fault()", real.fault(), model.fault());
                break;
            case 2:
                due("carryOut()", real.carryOut(), model.carryOut());
                break;
            case 3:
                due("wipe()", real.wipe(), model.wipe());
                break;
            case 4:
                long bad = dice >>> roll(64) & ~(roll(3) == 0 ? 255L << 8 * roll(8) : 0);
                due("put(" + bad + ")", real.put(bad), model.put(bad));
                break;
            default:
                if (roll(2) == 0) {
                    due("wipe()", real.wipe(), model.wipe());
                }
                type(orders());
                due("fault()", real.fault(), model.fault());
                if (roll(2) == 0) {
                    due("carryOut()", real.carryOut(), model.carryOut());
                }
        }
    }

    private void readPad() {
        for (int place = -1; place <= 80; place++) {
            due("sign(" + place + ")", real.sign(place), model.sign(place));
        }
    }

    private void type(String text) {
        for (int from = 0; from < text.length(); from += 8) {
            long packed = Check.packed(text.substring(from, Math.min(text.length(), from + 8)));
            due("put(" + packed + ")", real.put(packed), model.put(packed));
        }
    }

    private String orders() {
        StringBuilder text = new StringBuilder();
        for (int order = roll(7); order >= 0; order--) {
            text.append(order()).append(order > 0 || roll(20) == 0 ? ";" : "");
        }
        while (roll(5) == 0) {
            int place = roll(text.length());
            char sign = "bcghlp0123456789*:=;;!~".charAt(roll(23));
            if (roll(2) == 0) {
                text.setCharAt(place, sign);
            } else {
                text.insert(place, sign);
            }
        }
        return text.toString();
    }

    private String order() {
        int cart = roll(Math.max(1, model.count(2)));
        int bridge = Math.max(0, bridgeAt(cart)) % 100;
        int number = roll(20) == 0 ? roll(12000) : roll(sizeOf(bridge));
        switch (roll(6)) {
            case 0:
                return "b" + roll(9) + roll(9) + "*" + (2 + number);
            case 1:
                return "c" + roll(9) + "*" + number;
            case 2:
                return "g" + cart + ":" + bridge + "=" + number;
            case 3:
                return "h" + cart + ":" + bridge;
            case 4:
                return "l" + cart;
            default:
                return "p" + (roll(10) == 0 ? number : 1 + roll(5));
        }
    }
}
