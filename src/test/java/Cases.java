/** Cases that several tests begin with. */
final class Cases {
    static final int SPACE = 26;

    private Cases() {
    }

    /** Makes this the text of the case. */
    static void type(SortsCase x, String text) {
        x.clearText();
        for (int i = 0; i < text.length(); i++) {
            x.append(text.charAt(i));
        }
    }

    /** Buys one sort for each sign of the text, in its order. */
    static void buyFor(SortsCase x, String sorts) {
        for (int i = 0; i < sorts.length(); i++) {
            x.buy(number(sorts.charAt(i)), 1);
        }
    }

    /** One sort for each sign of the first, in its order, and the second as the text. */
    static SortsCase with(String sorts, String text) {
        SortsCase x = new SortsCase();
        buyFor(x, sorts);
        type(x, text);
        return x;
    }

    /**
     * A case with something of everything: foul boxes, upright and turned errors of which some can be corrected,
     * a heap, a slip, a price, a text, a forme without lines, and four saved states that all differ.
     */
    static SortsCase rich() {
        SortsCase x = new SortsCase();
        x.buy(0, 6);
        x.buy(1, 5);
        x.buy(2, 4);
        x.buy(5, 2);
        x.buy(26, 3);
        x.spill(1, 0, 1);
        setText(x, 2, "ab");
        x.pie(2);
        x.spill(2, 0, 2);
        setText(x, 0, "aab");
        setText(x, 0, "dz a");
        setText(x, 1, "fj");
        x.set(3, 7);
        x.spill(2, 1, 2);
        x.buy(3, 1);
        x.distribute(1);
        setText(x, 1, "b f");
        type(x, "ab c");
        return x;
    }

    /** The same with three saved states. */
    static SortsCase richWithThreeSaved() {
        SortsCase x = rich();
        x.undo();
        return x;
    }

    /** 250 sorts: some in boxes, some in formes, some in the heap; the text is "ab". */
    static SortsCase full() {
        SortsCase x = new SortsCase();
        for (int letter = 0; letter < 8; letter++) {
            x.buy(letter, 30);
        }
        x.buy(26, 10);
        setText(x, 0, "abcdefgh ");
        setText(x, 1, "abc");
        x.pie(1);
        setText(x, 2, "ab");
        return x;
    }

    /** Five lines in forme 0, and sorts for more; the text is "a". */
    static SortsCase fullForme() {
        SortsCase x = new SortsCase();
        x.buy(0, 9);
        for (int line = 0; line < 5; line++) {
            setText(x, 0, "a");
        }
        return x;
    }

    static int number(char sign) {
        return sign == ' ' ? SPACE : sign - 'a';
    }

    /** A line of the forme whose sorts lie ready in the boxes. */
    static void setText(SortsCase x, int forme, String text) {
        type(x, text);
        x.setLine(forme);
    }

    /** A box from the bottom to the top. */
    static String box(SortsCase x, char letter) {
        StringBuilder signs = new StringBuilder();
        for (int index = x.letter(number(letter), 0) - 1; index >= 0; index--) {
            signs.append(sign(x.inBox(number(letter), index)));
        }
        return signs.toString();
    }

    static String heap(SortsCase x) {
        StringBuilder signs = new StringBuilder();
        for (int index = 0; index < x.value(2); index++) {
            signs.append(sign(x.inHeap(index)));
        }
        return signs.toString();
    }

    /** The sorts of a line; turned ones as capitals (the turned space can't be). */
    static String line(SortsCase x, int forme, int line) {
        StringBuilder signs = new StringBuilder();
        for (int place = 0; place < x.places(forme, line); place++) {
            char sign = sign(x.place(forme, line, place, 1));
            signs.append(x.place(forme, line, place, 2) == 1 ? Character.toUpperCase(sign) : sign);
        }
        return signs.toString();
    }

    static char sign(int letter) {
        return letter == SPACE ? ' ' : (char) ('a' + letter);
    }

    static void dueText(String what, String got, String want) {
        Check.that(what + " is '" + got + "', due is '" + want + "'", got.equals(want));
    }
}
