/** Cases that several tests begin with. */
final class Cases {
    static final int SPACE = 26;

    private Cases() {
    }

    /** Makes this the text of the case. */
    static void type(SortsCase x, String text) {
        x.clearText();
        for (int i = 0; i < text.length(); i++) {
            x.append(text.charAt(i));
        }
    }

    /** Buys one sort for each sign of the text, in its order. */
    static void buyFor(SortsCase x, String sorts) {
        for (int i = 0; i < sorts.length(); i++) {
            x.buy(number(sorts.charAt(i)), 1);
        }
    }

    static int number(char sign) {
        return sign == ' ' ? SPACE : sign - 'a';
    }

    /** A line of the forme whose sorts lie ready in the boxes. */
    static void setText(SortsCase x, int forme, String text) {
        type(x, text);
        x.setLine(forme);
    }

    /** A box from the bottom to the top. */
    static String box(SortsCase x, char letter) {
        StringBuilder signs = new StringBuilder();
        for (int index = x.letter(number(letter), 0) - 1; index >= 0; index--) {
            signs.append(sign(x.inBox(number(letter), index)));
        }
        return signs.toString();
    }

    static String heap(SortsCase x) {
        StringBuilder signs = new StringBuilder();
        for (int index = 0; index < x.value(2); index++) {
            signs.append(sign(x.inHeap(index)));
        }
        return signs.toString();
    }

    /** The sorts of a line; turned ones as capitals (the turned space can't be). */
    static String line(SortsCase x, int forme, int line) {
        StringBuilder signs = new StringBuilder();
        for (int place = 0; place < x.places(forme, line); place++) {
            char sign = sign(x.place(forme, line, place, 1));
            signs.append(x.place(forme, line, place, 2) == 1 ? Character.toUpperCase(sign) : sign);
        }
        return signs.toString();
    }

    static char sign(int letter) {
        return letter == SPACE ? ' ' : (char) ('a' + letter);
    }

    static void dueText(String what, String got, String want) {
        Check.that(what + " is '" + got + "', due is '" + want + "'", got.equals(want));
    }
}
