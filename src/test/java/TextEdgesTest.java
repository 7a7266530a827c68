/** The edges of the pad, of notes and of the orders of a text: each of these sentences has a test of its own. */
public final class TextEdgesTest {
    private static final int NO_SUCH = -1, BAD_VALUE = -2, BAD_TEXT = -3, TOO_MANY = -4, NONE = -6;
    private static final int HINT = 1;
    private static final int FULL = 80;
    private static final String DIGITS = "0123456789";

    private static final Check check = new Check("TextEdgesTest");

    public static void main(String[] args) {
        placesOfThePad();
        oneToEightCharacters();
        codesOfCharacters();
        noCharacter();
        bitsAboveTheEnd();
        fullPad();
        badOnesOfAFullPad();
        wiping();
        noteOfNothing();
        noteInPlaceOfWhatWasThere();
        noteOfRanges();
        noteOfRangesThatAreForgotten();
        noteOfTwelveBridges();
        notesAsLongAsThePad();
        whatMayStandThere();
        textsThatEndTooEarly();
        textsOfAFullPad();
        numbersOfOrders();
        digitsOfOrders();
        ordersAsCalls();
        noOrders();
        faultyOrders();
        upToTheFirstError();
        asManyOrdersAsThePadHolds();
        oneChangeOfAll();
        emptiesThePad();
        check.end();
    }

    private static void due(String call, long got, long want) {
        check.due(call, got, want);
    }

    private static void due(String what, String got, String want) {
        check.due(what, got, want);
    }

    private static BridgeWardens typed(String text) {
        BridgeWardens x = new BridgeWardens();
        Check.type(x, text);
        return x;
    }

    // ---- the pad

    private static void placesOfThePad() {
        check.sentence("sign: NO_SUCH if there is no such place");
        int[] far = {Integer.MIN_VALUE, -80, -2, -1, FULL, 81, 65536, Integer.MAX_VALUE};
        for (int length = 0; length <= FULL; length += 8) {
            BridgeWardens x = typed("!bcdefg~".repeat(length / 8));
            due("count(13)", x.count(13), length);
            due("the place behind the last", x.sign(length), NO_SUCH);
            if (length > 0) {
                due("the first place", x.sign(0), 33);
                due("the last place", x.sign(length - 1), 126);
            }
            for (int place : far) {
                due("sign(" + place + ")", x.sign(place), NO_SUCH);
            }
        }
        BridgeWardens x = typed("abcdefgh");
        x.wipe();
        due("sign(0) of what was wiped", x.sign(0), NO_SUCH);
        Check.type(x, "i");
        due("sign(0)", x.sign(0), 'i');
        due("sign(1) of what was wiped", x.sign(1), NO_SUCH);
    }

    private static void oneToEightCharacters() {
        check.sentence("characters: 1 to 8 characters; its lowest 8 bits are the last character, the next 8 bits the one before");
        for (int length = 1; length <= 8; length++) {
            String text = "!~aZ09*;".substring(0, length);
            BridgeWardens x = new BridgeWardens();
            due("put of " + length, x.put(Check.packed(text)), length);
            due("the pad", Check.pad(x), text);
            due("put of " + length + " more", x.put(Check.packed(text)), 2 * length);
            due("the pad", Check.pad(x), text + text);
        }
    }

    private static void codesOfCharacters() {
        check.sentence("BAD_VALUE if a code is not 33 to 126");
        for (int place = 0; place < 8; place++) {
            long others = Check.packed("AAAAAAAA") & ~(255L << 8 * place);
            for (int code = 0; code < 256; code++) {
                // A code of 0 at the first place of the text ends it: seven characters are left.
                boolean ends = code == 0 && place == 7;
                BridgeWardens x = new BridgeWardens();
                int length = code >= 33 && code <= 126 ? 8 : ends ? 7 : BAD_VALUE;
                due("code " + code + " at " + place, x.put(others | (long) code << 8 * place), length);
                due("count(13)", x.count(13), Math.max(0, length));
            }
        }
        for (int code = 0; code < 256; code++) {
            BridgeWardens x = new BridgeWardens();
            due("code " + code, x.put(code), code >= 33 && code <= 126 ? 1 : BAD_VALUE);
        }
    }

    private static void noCharacter() {
        check.sentence("BAD_VALUE if there is no character");
        BridgeWardens x = new BridgeWardens();
        due("put(0)", x.put(0), BAD_VALUE);
        due("count(13)", x.count(13), 0);
        Check.type(x, "a".repeat(FULL));
        due("put(0) into a full pad", x.put(0), BAD_VALUE);
    }

    private static void bitsAboveTheEnd() {
        check.sentence("BAD_VALUE if a bit above 8 bits that are 0 is not 0");
        for (int length = 0; length < 8; length++) {
            long text = Check.packed("abcdefgh".substring(0, length));
            BridgeWardens x = new BridgeWardens();
            for (int bit = 8 * length + 8; bit < 64; bit++) {
                due("bit " + bit + " above " + length, x.put(text | 1L << bit), BAD_VALUE);
            }
            due("a character above " + length, x.put(text | (length < 7 ? 65L << 8 * length + 8 : 0)),
                length < 7 ? BAD_VALUE : 7);
        }
        BridgeWardens x = new BridgeWardens();
        due("put(-1)", x.put(-1), BAD_VALUE);
        due("put of the least long", x.put(Long.MIN_VALUE), BAD_VALUE);
        due("put of the greatest long", x.put(Long.MAX_VALUE), BAD_VALUE);
        due("count(13)", x.count(13), 0);
    }

    private static void fullPad() {
        check.sentence("The pad is a text of at most 80 characters; TOO_MANY if the pad would be longer than 80");
        for (int length = FULL - 8; length <= FULL; length++) {
            for (int more = 1; more <= 8; more++) {
                BridgeWardens x = typed("a".repeat(length));
                boolean fits = length + more <= FULL;
                due("put of " + more + " behind " + length, x.put(Check.packed("b".repeat(more))),
                    fits ? length + more : TOO_MANY);
                due("the pad", Check.pad(x), "a".repeat(length) + (fits ? "b".repeat(more) : ""));
            }
        }
    }

    private static void badOnesOfAFullPad() {
        check.sentence("put: BAD_VALUE ahead of TOO_MANY");
        BridgeWardens x = typed("a".repeat(FULL));
        due("put of a bad code", x.put(127), BAD_VALUE);
        due("put of a bad code among others", x.put(0x41414120414141L), BAD_VALUE);
        due("put with a gap", x.put(0x410041L), BAD_VALUE);
        due("put of a right one", x.put(126), TOO_MANY);
        due("the pad", Check.pad(x), "a".repeat(FULL));
    }

    private static void wiping() {
        check.sentence("Empties the pad, and returns the length that it had");
        int[] lengths = {0, 1, 79, 80};
        for (int length : lengths) {
            BridgeWardens x = typed("a".repeat(length));
            due("wipe() of " + length, x.wipe(), length);
            due("count(13)", x.count(13), 0);
            due("wipe() again", x.wipe(), 0);
            due("the pad can be filled again", Check.type(x, "b".repeat(FULL)), FULL);
            due("the pad", Check.pad(x), "b".repeat(FULL));
        }
    }

    // ---- notes

    private static void noteOfNothing() {
        check.sentence("A note of a cart is \"c\", its number, \"@\", its town, \"*\", its coins");
        BridgeWardens x = new BridgeWardens();
        due("write(0) without carts", x.write(0), NO_SUCH);
        int[] coins = {0, 9, 10, 99, 100, 999, 1000, 9999};
        for (int cart = 0; cart < 8; cart++) {
            x.cart(7 - cart, coins[cart]);
            String note = "c" + cart + "@" + (7 - cart) + "*" + coins[cart];
            due("write(" + cart + ")", x.write(cart), note.length());
            due("the pad", Check.pad(x), note);
        }
        due("write(8)", x.write(8), NO_SUCH);
        due("the pad stays", Check.pad(x), "c7@0*9999");
        due("write(-1)", x.write(-1), NO_SUCH);
    }

    private static void noteInPlaceOfWhatWasThere() {
        check.sentence("Writes the note of a cart into the pad, in place of what was there");
        BridgeWardens x = typed("z".repeat(FULL));
        x.cart(3, 5);
        due("write(0) into a full pad", x.write(0), 6);
        due("the pad", Check.pad(x), "c0@3*5");
        due("put behind the note", x.put('!'), 7);
        due("the pad", Check.pad(x), "c0@3*5!");
        due("write(0) again", x.write(0), 6);
        due("sign(6)", x.sign(6), NO_SUCH);
        due("count(14): not a change", x.count(14), 1);
    }

    private static void noteOfRanges() {
        check.sentence("for each bridge, by numbers, of which it knows a range that is less than the whole one");
        BridgeWardens x = new BridgeWardens();
        x.bridge(0, 1, 2);
        x.bridge(0, 1, 149);
        x.bridge(0, 1, 999);
        x.cart(0, 9);
        due("write(0) that knows nothing", x.write(0), 6);
        due("the pad", Check.pad(x), "c0@0*9");
        x.hint(0, 1);
        x.hint(0, 0);
        x.write(0);
        // The riddles are 0 of two numbers, 5624 left over by 149 and 28652 left over by 999.
        due("the pad", Check.pad(x), "c0@0*7;0:0-0;1:75-148");
        x.hint(0, 2);
        x.write(0);
        due("the pad", Check.pad(x), "c0@0*6;0:0-0;1:75-148;2:500-998");
        x.cart(0, 9);
        x.write(1);
        due("the pad of another cart", Check.pad(x), "c1@0*9");
    }

    private static void noteOfRangesThatAreForgotten() {
        check.sentence("of which it knows a range that is less than the whole one: not behind a new riddle");
        BridgeWardens x = new BridgeWardens();
        x.bridge(0, 1, 100);
        x.bridge(0, 1, 100);
        x.cart(0, 9);
        x.cart(0, 9);
        x.hint(0, 0);
        x.hint(0, 1);
        x.guess(1, 0, 5);
        x.pass(6);
        x.write(0);
        due("the pad", Check.pad(x), "c0@0*7;1:0-49");
        x.undo();
        x.write(0);
        due("the pad behind undo()", Check.pad(x), "c0@0*7;0:50-99;1:0-49");
    }

    private static void noteOfTwelveBridges() {
        check.sentence("\";\", the number of the bridge: of two digits");
        BridgeWardens x = new BridgeWardens();
        for (int bridge = 0; bridge < 12; bridge++) {
            x.bridge(0, 1, 1000);
        }
        x.cart(0, 9);
        for (int bridge = 9; bridge < 12; bridge++) {
            x.hint(0, bridge);
        }
        x.write(0);
        String note = "c0@0*6";
        for (int bridge = 9; bridge < 12; bridge++) {
            note += x.ofBridge(bridge, 3) < 500 ? ";" + bridge + ":0-499" : ";" + bridge + ":500-999";
        }
        due("the pad", Check.pad(x), note);
    }

    private static void notesAsLongAsThePad() {
        check.sentence("as much of it as 80 characters hold");
        for (int length = 79; length <= 81; length++) {
            int size = 2;
            while (size < 1000 && noteOf(eightBridges(size)).length() != length) {
                size++;
            }
            BridgeWardens x = eightBridges(size);
            String note = noteOf(x);
            due("the length of the note", note.length(), length);
            due("write(0)", x.write(0), Math.min(length, FULL));
            due("the pad", Check.pad(x), note.substring(0, Math.min(length, FULL)));
            due("put behind it", x.put('!'), length < FULL ? FULL : TOO_MANY);
        }
    }

    /** Of each bridge cart 0 knows half of the range; the last bridge has a size by which the note is longer or shorter. */
    private static BridgeWardens eightBridges(int lastSize) {
        BridgeWardens x = new BridgeWardens();
        x.set(HINT, 0);
        x.cart(0, 1000);
        for (int bridge = 0; bridge < 8; bridge++) {
            x.bridge(0, 1, bridge < 7 ? 1000 : lastSize);
            x.hint(0, bridge);
        }
        return x;
    }

    private static String noteOf(BridgeWardens x) {
        StringBuilder note = new StringBuilder("c0@0*1000");
        for (int bridge = 0; bridge < 8; bridge++) {
            note.append(';').append(bridge).append(':').append(x.knows(0, bridge, 0));
            note.append('-').append(x.knows(0, bridge, 1));
        }
        return note.toString();
    }

    // ---- faults

    private static void whatMayStandThere() {
        check.sentence("The fault is the index of the first character that cannot stand at its place");
        String[][] places = {
            {"", "bcghlp"}, {"b", DIGITS}, {"b0", DIGITS}, {"b9", DIGITS}, {"b01", "*"}, {"b01*", DIGITS},
            {"b01*0", ";"}, {"b01*1", DIGITS + ";"}, {"b01*10", DIGITS + ";"}, {"b01*999", DIGITS + ";"},
            {"b01*1000", ";"}, {"b01*9999", ";"}, {"b01*5;", "bcghlp"},
            {"c", DIGITS}, {"c0", "*"}, {"c9", "*"}, {"c9*", DIGITS}, {"c9*0", ";"}, {"c9*9", DIGITS + ";"},
            {"c9*100", DIGITS + ";"}, {"c9*1000", ";"}, {"c9*9999", ";"}, {"c9*9999;", "bcghlp"},
            {"g", DIGITS}, {"g0", ":"}, {"g9", ":"}, {"g9:", DIGITS}, {"g9:0", "="}, {"g9:1", DIGITS + "="},
            {"g9:999", DIGITS + "="}, {"g9:1000", "="}, {"g9:9999", "="}, {"g9:0=", DIGITS}, {"g9:0=0", ";"},
            {"g9:0=5", DIGITS + ";"}, {"g9:0=999", DIGITS + ";"}, {"g9:0=1000", ";"}, {"g9:0=9999", ";"},
            {"g9:12=34;", "bcghlp"},
            {"h", DIGITS}, {"h0", ":"}, {"h9", ":"}, {"h9:", DIGITS}, {"h9:0", ";"}, {"h9:9", DIGITS + ";"},
            {"h9:999", DIGITS + ";"}, {"h9:1000", ";"}, {"h9:9999", ";"}, {"h0:0;", "bcghlp"},
            {"l", DIGITS}, {"l0", ";"}, {"l9", ";"}, {"l9;", "bcghlp"},
            {"p", DIGITS}, {"p0", ";"}, {"p1", DIGITS + ";"}, {"p99", DIGITS + ";"}, {"p999", DIGITS + ";"},
            {"p1000", ";"}, {"p9999", ";"}, {"p1;", "bcghlp"}, {"p1;l0;c0*1;", "bcghlp"}};
        for (String[] place : places) {
            for (char sign = 33; sign <= 126; sign++) {
                int fault = typed(place[0] + sign).fault();
                boolean stands = fault == NONE || fault > place[0].length();
                due("does " + sign + " stand behind " + place[0], stands ? 1 : 0, place[1].indexOf(sign) >= 0 ? 1 : 0);
                if (!stands) {
                    due("fault() of " + place[0] + sign, fault, place[0].length());
                    due("fault() with more behind it", typed(place[0] + sign + ";p1").fault(), fault);
                }
            }
        }
    }

    private static void textsThatEndTooEarly() {
        check.sentence("if there is none and the text ends too early (also if it is empty), it is the length of the text");
        due("fault() of nothing", new BridgeWardens().fault(), 0);
        String[] whole = {"b01*5", "c0*5", "g0:0=5", "h0:5", "l0", "p5"};
        for (String order : whole) {
            due("fault() of " + order, typed(order).fault(), NONE);
            for (int length = 0; length < order.length(); length++) {
                String text = order.substring(0, length);
                due("fault() of " + text, typed(text).fault(), length);
                due("fault() of p10;" + text, typed("p10;" + text).fault(), length + 4);
            }
            due("fault() of " + order + ";", typed(order + ";").fault(), order.length() + 1);
        }
        BridgeWardens x = typed("p5");
        x.wipe();
        due("fault() of what was wiped", x.fault(), 0);
    }

    private static void textsOfAFullPad() {
        check.sentence("The fault, of a text of 80 characters");
        String most = "p1;".repeat(26);
        due("fault() of 80 right ones", typed(most + "p1").fault(), NONE);
        due("fault() behind the last place", typed("l1;".repeat(25) + "p999;").fault(), FULL);
        due("fault() at the last place", typed(most + "px").fault(), 79);
        due("fault() at the last place", typed(most + "p;").fault(), 79);
        due("fault() ahead of the last place", typed(most + "x1").fault(), 78);
        due("fault() of a number that ends the text", typed("l1;".repeat(25) + "p9999").fault(), NONE);
        due("fault() of 79 that end too early", typed(most + "g").fault(), 79);
        due("fault() of 80 that end too early", typed(most + "g1").fault(), FULL);
    }

    private static void numbersOfOrders() {
        check.sentence("a number 0 to 9999, without leading zeros (also of a digit by which a number would be above 9999)");
        String[] heads = {"b01*", "c0*", "g0:", "g0:0=", "h0:", "p"};
        String[] numbers = {"0", "1", "9", "10", "99", "100", "999", "1000", "9999"};
        for (String head : heads) {
            String tail = head.equals("g0:") ? "=1" : "";
            for (String number : numbers) {
                due("fault() of " + head + number + tail, typed(head + number + tail).fault(), NONE);
            }
            due("fault() of 10000", typed(head + "10000" + tail).fault(), head.length() + 4);
            due("fault() of 99999", typed(head + "99999" + tail).fault(), head.length() + 4);
            due("fault() of 00", typed(head + "00" + tail).fault(), head.length() + 1);
            due("fault() of 01", typed(head + "01" + tail).fault(), head.length() + 1);
            due("fault() of 09999", typed(head + "09999" + tail).fault(), head.length() + 1);
        }
    }

    // ---- orders

    private static void digitsOfOrders() {
        check.sentence("A digit is 0 to 9: also where there is no such town or cart, as the order then returns an error");
        String[] refused = {"b80*5", "b08*5", "b99*5", "b00*5", "b01*0", "b01*1", "b01*1001", "b01*9999", "c8*5", "c9*5",
            "g1:0=0", "g9:0=0", "g0:1=0", "g0:9999=0", "g0:0=10", "g0:0=9999", "h1:0", "h0:1", "h0:9999", "l0", "l1", "l9",
            "p0", "p100", "p9999"};
        String[] taken = {"b70*2", "b07*1000", "c7*0", "c0*9999", "g0:0=0", "g0:0=9", "h0:0", "p1", "p99"};
        for (String order : refused) {
            dueOrder(order, 0);
        }
        for (String order : taken) {
            dueOrder(order, 1);
        }
    }

    private static void dueOrder(String order, int carried) {
        BridgeWardens x = new BridgeWardens();
        x.bridge(0, 1, 10);
        x.cart(0, 9);
        String before = Check.state(x);
        Check.type(x, order);
        due("fault() of " + order, x.fault(), NONE);
        due("carryOut() of " + order, x.carryOut(), carried);
        due(order + " changes something", Check.state(x).equals(before) ? 0 : 1, carried);
    }

    private static void ordersAsCalls() {
        check.sentence("\"b\": bridge() between two towns, with a size; \"c\": cart(); \"g\": guess(); \"h\": hint(); \"l\": leave(); \"p\": pass()");
        BridgeWardens x = typed("b37*21;b53*1000;b75*300;c5*12;c3*9999;c7*0;g1:0=20;h0:1");
        due("carryOut()", x.carryOut(), 8);
        Check.type(x, "g0:2=299;h1:0;p4;l1;g1:1=7;h1:1");
        due("carryOut()", x.carryOut(), 6);
        BridgeWardens same = new BridgeWardens();
        same.bridge(3, 7, 21);
        same.bridge(5, 3, 1000);
        same.bridge(7, 5, 300);
        same.cart(5, 12);
        same.cart(3, 9999);
        same.cart(7, 0);
        same.guess(1, 0, 20);
        same.hint(0, 1);
        same.guess(0, 2, 299);
        same.hint(1, 0);
        same.pass(4);
        same.leave(1);
        same.guess(1, 1, 7);
        same.hint(1, 1);
        due("the state", Check.state(x), Check.state(same));
        due("ofCart(1, 2)", x.ofCart(1, 2), 1);
    }

    private static void noOrders() {
        check.sentence("BAD_TEXT if the pad has a fault: an empty one");
        BridgeWardens x = new BridgeWardens();
        due("carryOut() of nothing", x.carryOut(), BAD_TEXT);
        due("count(14)", x.count(14), 0);
        Check.type(x, "p1");
        due("carryOut()", x.carryOut(), 1);
        due("carryOut() again, of nothing", x.carryOut(), BAD_TEXT);
        due("count(0)", x.count(0), 1);
    }

    private static void faultyOrders() {
        check.sentence("BAD_TEXT if the pad has a fault (then it stays)");
        String[] texts = {"p1;", "p1;p", "p1;p100;x", "p1p1", ";p1", "p1;p01", "p1;p10000"};
        for (String text : texts) {
            BridgeWardens x = typed(text);
            due("carryOut() of " + text, x.carryOut(), BAD_TEXT);
            due("the pad", Check.pad(x), text);
            due("count(0)", x.count(0), 0);
            due("count(14)", x.count(14), 0);
        }
    }

    private static void upToTheFirstError() {
        check.sentence("one after the other, up to the first one that returns an error");
        BridgeWardens x = typed("c0*5;c8*5;c0*6");
        due("carryOut()", x.carryOut(), 1);
        due("count(2)", x.count(2), 1);
        x = typed("c8*5;c0*6");
        due("carryOut(), the first one is refused", x.carryOut(), 0);
        due("count(2)", x.count(2), 0);
        due("count(14), also if none is carried out", x.count(14), 1);
        x = typed("c0*5;c0*6;c8*5");
        due("carryOut(), the last one is refused", x.carryOut(), 2);
        due("count(2)", x.count(2), 2);
        x = typed("c0*1;c0*2;c0*3;c0*4;c0*5;c0*6;c0*7;c0*8;c0*9;p1");
        due("carryOut(), a ninth cart", x.carryOut(), 8);
        due("count(2)", x.count(2), 8);
        due("count(0)", x.count(0), 0);
        x = typed("p99;p99;p1;p100;p1");
        due("carryOut(), too many hours", x.carryOut(), 3);
        due("count(0)", x.count(0), 199);
    }

    private static void asManyOrdersAsThePadHolds() {
        check.sentence("Returns how many orders were carried out: of 80 characters");
        BridgeWardens x = typed("p1;".repeat(26) + "p2");
        due("count(13)", x.count(13), FULL);
        due("carryOut()", x.carryOut(), 27);
        due("count(0)", x.count(0), 28);
        due("count(14)", x.count(14), 1);
        due("undo()", x.undo(), 0);
        due("count(0)", x.count(0), 0);
        x = typed("p5");
        due("carryOut() of one", x.carryOut(), 1);
        due("count(0)", x.count(0), 5);
    }

    private static void oneChangeOfAll() {
        check.sentence("This is a change (one, with all of them); An order of a text records nothing by itself");
        BridgeWardens x = new BridgeWardens();
        for (int value = 10; value < 15; value++) {
            x.set(0, value);
        }
        Check.type(x, "b01*9;c0*5;h0:0;g0:0=1;p3;l0;p3");
        due("carryOut()", x.carryOut(), 7);
        due("count(14)", x.count(14), 6);
        due("count(0)", x.count(0), 6);
        due("undo()", x.undo(), 5);
        due("count(0)", x.count(0), 0);
        due("count(1)", x.count(1), 0);
        due("count(2)", x.count(2), 0);
        due("count(8)", x.count(8), 0);
        due("count(9)", x.count(9), 14);
        x = new BridgeWardens();
        for (int value = 10; value < 17; value++) {
            x.set(0, value);
        }
        Check.type(x, "p1;p1");
        x.carryOut();
        for (int left = 5; left >= 0; left--) {
            due("undo()", x.undo(), left);
        }
        due("the oldest of a full history was dropped", x.count(9), 11);
    }

    private static void emptiesThePad() {
        check.sentence("and empties the pad");
        BridgeWardens x = typed("c8*1");
        due("carryOut() of none", x.carryOut(), 0);
        due("count(13)", x.count(13), 0);
        due("sign(0)", x.sign(0), NO_SUCH);
        due("fault()", x.fault(), 0);
        due("undo()", x.undo(), 0);
        due("count(13) behind undo()", x.count(13), 0);
        Check.type(x, "p1");
        due("the pad", Check.pad(x), "p1");
        due("carryOut()", x.carryOut(), 1);
        due("wipe()", x.wipe(), 0);
    }
}
