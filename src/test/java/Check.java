/** Counts and prints the answers that are not the ones that are due. */
final class Check {
    private final String title;
    private String sentence = "";
    private int checks;
    private int wrong;

    Check(String title) {
        this.title = title;
    }

    /** Names the words of the document by which the next answers are due. */
    void sentence(String words) {
        sentence = " (" + words + ")";
    }

    void due(String what, long got, long want) {
        checks++;
        if (got != want) {
            wrong++;
            System.out.println(title + ": " + what + " answered " + got + ", due is " + want + sentence);
        }
    }

    void due(String what, String got, String want) {
        checks++;
        if (!got.equals(want)) {
            wrong++;
            System.out.println(title + ": " + what + " is \"" + got + "\", due is \"" + want + "\"" + sentence);
        }
    }

    int wrong() {
        return wrong;
    }

    void end() {
        System.out.println(title + ": " + checks + " answers, " + wrong + " not as due");
        if (wrong != 0) {
            System.exit(1);
        }
    }

    /** Appends a text to the pad, eight characters at a time. */
    static int type(BridgeWardens wardens, String text) {
        int answer = wardens.count(13);
        for (int from = 0; from < text.length(); from += 8) {
            answer = wardens.put(packed(text.substring(from, Math.min(text.length(), from + 8))));
        }
        return answer;
    }

    static long packed(String text) {
        long characters = 0;
        for (char sign : text.toCharArray()) {
            characters = characters << 8 | sign;
        }
        return characters;
    }

    static String pad(BridgeWardens wardens) {
        StringBuilder text = new StringBuilder();
        int length = wardens.count(13);
        for (int place = 0; place < length; place++) {
            text.append((char) wardens.sign(place));
        }
        return text.toString();
    }

    /** All that can be asked about the state without asking what if, but for the history. */
    static String state(BridgeWardens wardens) {
        return counts(wardens) + bridges(wardens) + carts(wardens) + ranges(wardens);
    }

    static String counts(BridgeWardens wardens) {
        StringBuilder text = new StringBuilder();
        for (int what = 0; what <= 12; what++) {
            text.append(wardens.count(what)).append(' ');
        }
        return text.toString();
    }

    static String bridges(BridgeWardens wardens) {
        StringBuilder text = new StringBuilder();
        int bridges = wardens.count(1);
        for (int bridge = 0; bridge < bridges; bridge++) {
            text.append("\nb");
            for (int what = 0; what <= 7; what++) {
                text.append(wardens.ofBridge(bridge, what)).append(' ');
            }
            int cart = wardens.waits(bridge, 0);
            for (int rank = 1; cart >= 0; rank++) {
                text.append('w').append(cart).append(' ');
                cart = wardens.waits(bridge, rank);
            }
        }
        return text.toString();
    }

    static String carts(BridgeWardens wardens) {
        StringBuilder text = new StringBuilder();
        int carts = wardens.count(2);
        for (int cart = 0; cart < carts; cart++) {
            text.append("\nc");
            for (int what = 0; what <= 7; what++) {
                text.append(wardens.ofCart(cart, what)).append(' ');
            }
        }
        return text.toString();
    }

    /** What the carts know of the bridges. */
    static String ranges(BridgeWardens wardens) {
        StringBuilder text = new StringBuilder();
        int bridges = wardens.count(1);
        int carts = wardens.count(2);
        for (int cart = 0; cart < carts; cart++) {
            text.append("\nk");
            for (int bridge = 0; bridge < bridges; bridge++) {
                text.append(wardens.knows(cart, bridge, 0)).append('-');
                text.append(wardens.knows(cart, bridge, 1)).append(' ');
            }
        }
        return text.toString();
    }
}
