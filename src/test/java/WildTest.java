/**
 * No call ever throws, for any arguments in any state (LANGUAGE.md, rule 7), also behind the 512th call, where the answers
 * are free: a call that throws ends this test. Up to there an answer that is below 0 is one of the codes.
 */
public final class WildTest {
    private static final int OBJECTS = 60;
    private static final int CALLS = 3000;
    private static final int PROMISED_CALLS = 512;
    private static final int LEAST_CODE = -6;
    private static final Check check = new Check("WildTest");

    private final BridgeWardens x = new BridgeWardens();
    private long dice;

    private WildTest(int seed) {
        dice = 104729L * seed + 3;
    }

    public static void main(String[] args) {
        check.sentence("No call may ever throw or fail to end, for any arguments in any state");
        for (int object = 0; object < OBJECTS; object++) {
            WildTest test = new WildTest(object);
            for (int call = 0; call < CALLS; call++) {
                int answer = test.call(test.roll(28));
                if (call < PROMISED_CALLS) {
                    check.due("an answer below all codes", answer < LEAST_CODE ? answer : 0, 0);
                }
            }
        }
        check.end();
    }

    private int roll(int sides) {
        dice = dice * 6364136223846793005L + 1442695040888963407L;
        return (int) ((dice >>> 33) % sides);
    }

    /** Mostly a small number, sometimes one of up to 1000, now and then any int at all. */
    private int wild() {
        int chance = roll(10);
        if (chance == 0) {
            return (int) (dice >>> 20);
        }
        if (chance == 1) {
            return roll(2) == 0 ? Integer.MIN_VALUE : Integer.MAX_VALUE;
        }
        return chance < 4 ? roll(1004) - 1 : roll(14) - 1;
    }

    private long characters() {
        String[] texts = {"p99;", "l0;", "c0*9999;", "b01*9;", "g0:0=1;", "h0:0", "p1", ";", "p0"};
        return roll(4) == 0 ? dice >> roll(64) : Check.packed(texts[roll(texts.length)]);
    }

    private int call(int method) {
        return method < 14 ? change(method) : ask(method);
    }

    private int change(int method) {
        switch (method) {
            case 0:
                return x.set(wild(), wild());
            case 1:
                return x.bridge(wild(), wild(), wild());
            case 2:
                return x.cart(wild(), wild());
            case 3:
                return x.guess(wild(), wild(), wild());
            case 4:
                return x.leave(wild());
            case 5:
                return x.hint(wild(), wild());
            case 6:
                return x.pass(wild());
            case 7:
                return x.write(wild());
            case 8:
                return x.put(characters());
            case 9:
                return x.wipe();
            case 10:
                return x.carryOut();
            case 11:
                return x.undo();
            case 12:
                return x.save(wild());
            default:
                return x.restore(wild());
        }
    }

    private int ask(int method) {
        switch (method) {
            case 14:
                return x.ofBridge(wild(), wild());
            case 15:
                return x.ofCart(wild(), wild());
            case 16:
                return x.knows(wild(), wild(), wild());
            case 17:
                return x.waits(wild(), wild());
            case 18:
                return x.sign(wild());
            case 19:
                return x.count(wild());
            case 20:
                return x.next(wild());
            case 21:
                return x.why(wild());
            case 22:
                return x.overIn(wild());
            case 23:
                return x.wins(wild(), wild(), wild(), wild());
            case 24:
                return x.bestGuess(wild(), wild(), wild(), wild());
            case 25:
                return x.route(wild(), wild(), wild());
            case 26:
                return x.would(wild(), wild());
            default:
                return x.fault();
        }
    }
}
