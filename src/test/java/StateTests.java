/** Promises 25 to 28: the text, undo and digest. */
final class StateTests {
    private StateTests() {
    }

    static void run() {
        appending();
        clearing();
        undoing();
        undoneByEveryCall();
        undoneSetAnew();
        undoneNumbers();
        digestOfNewObject();
        digests();
    }

    private static void appending() {
        SortsCase x = new SortsCase();
        Check.due("append(97)", x.append(97), 1);
        Check.due("append(122)", x.append(122), 2);
        Check.due("append(32)", x.append(32), 3);
        for (int value : new int[] {96, 123, 31, 33, 0, 26, 65, -1, 97 + 256, Integer.MIN_VALUE, Integer.MAX_VALUE}) {
            Check.badArgument("append(" + value + ")", x, () -> x.append(value));
        }
        Check.due("a of the text lacks", x.letter(0, 7), 1);
        Check.due("z of the text lacks", x.letter(25, 7), 1);
        Check.due("space of the text lacks", x.letter(26, 7), 1);
        for (int length = 4; length <= 16; length++) {
            Check.due("append(98)", x.append(98), length);
        }
        Check.badState("append to 16", x, () -> x.append(98));
        Check.badState("append of a space to 16", x, () -> x.append(32));
        Check.badArgument("append of another one to 16", x, () -> x.append(64));
        Check.badState("the text is not undoable", x, x::undo);
    }

    private static void clearing() {
        SortsCase x = new SortsCase();
        Check.due("clearText() without text", x.clearText(), 0);
        Cases.type(x, "abc");
        Check.due("clearText()", x.clearText(), 3);
        Check.due("clearText() again", x.clearText(), 0);
        Check.due("append behind it", x.append(98), 1);
        Check.due("a lacks no more", x.letter(0, 7), 0);
        Check.badState("clearText is not undoable", x, x::undo);
    }

    private static void undoing() {
        SortsCase x = new SortsCase();
        Cases.type(x, "a");
        for (int count = 1; count <= 6; count++) {
            x.buy(0, count);
        }
        Check.due("undo()", x.undo(), 3);
        Check.due("sorts", x.value(3), 15);
        Cases.type(x, "abc");
        Check.due("undo()", x.undo(), 2);
        Check.due("sorts", x.value(3), 10);
        Check.due("buy between", x.buy(1, 1), 1);
        Check.due("undo()", x.undo(), 2);
        Check.due("undo()", x.undo(), 1);
        Check.due("undo()", x.undo(), 0);
        Check.due("sorts of the oldest state", x.value(3), 3);
        Check.badState("undo() too often", x, x::undo);
        Check.due("the text is not undone", x.clearText(), 3);
    }

    /** Every undoable call saves the state, and undo restores all of it, whatever the call has changed. */
    private static void undoneByEveryCall() {
        SortsCase x = new SortsCase();
        x.buy(0, 9);
        x.buy(1, 9);
        x.buy(26, 9);
        x.spill(1, 0, 2);
        x.set(3, 5);
        Cases.setText(x, 0, "ac b");
        Cases.setText(x, 1, "bb");
        Cases.setText(x, 2, "aba");
        x.pie(2);
        x.spill(1, 0, 1);
        x.buy(2, 1);
        Cases.type(x, "zz a");
        for (int which = 0; which < 10; which++) {
            // The last but one state has another price, so that an undo too far is seen.
            x.set(3, 6);
            x.set(3, 5);
            long before = digest(x, "zz a", 4);
            undoable(x, which);
            Check.that("call " + which + " changes the state", digest(x, "zz a", 4) != before);
            Check.due("undo of call " + which, x.undo(), 3);
            Check.due("digest behind undo of call " + which, x.digest(), digest(x, "zz a", 3));
            Check.due("state behind undo of call " + which, digest(x, "zz a", 4), before);
        }
    }

    /** A forme that is distributed and set anew comes back with its own lines and turned sorts. */
    private static void undoneSetAnew() {
        SortsCase x = new SortsCase();
        Cases.buyFor(x, "aaaabb");
        Cases.setText(x, 1, "ac");
        Cases.setText(x, 1, "bca");
        Cases.dueText("the first line", Cases.line(x, 1, 0), "aA");
        Cases.dueText("the second line", Cases.line(x, 1, 1), "bAa");
        x.distribute(1);
        Cases.setText(x, 1, "abb");
        Cases.setText(x, 1, "a");
        x.undo();
        x.undo();
        Check.due("undo()", x.undo(), 1);
        Check.due("places(1, 0)", x.places(1, 0), 2);
        Check.due("places(1, 1)", x.places(1, 1), 3);
        Cases.dueText("the first line again", Cases.line(x, 1, 0), "aA");
        Cases.dueText("the second line again", Cases.line(x, 1, 1), "bAa");
        Check.due("proof(1, 0)", x.proof(1, 0), 1);
        Check.due("proof(1, 1)", x.proof(1, 1), 101);
        Check.due("proof(1, 2)", x.proof(1, 2), SortsCase.NONE);
    }

    /** The saved state has the numbers, too. */
    private static void undoneNumbers() {
        SortsCase x = new SortsCase();
        x.set(7, 11);
        x.buy(0, 2);
        Cases.setText(x, 0, "aa");
        x.distribute(0);
        int[] due = {7, 11, 22, 4, 2};
        x.set(5, 9);
        x.buyLacking();
        x.setLine(0);
        x.distribute(0);
        for (int count = 0; count < 4; count++) {
            x.undo();
        }
        for (int what = 0; what < due.length; what++) {
            Check.due("value(" + (4 + what) + ") behind undo", x.value(4 + what), due[what]);
        }
    }

    private static void undoable(SortsCase x, int which) {
        switch (which) {
            case 0 -> x.buy(3, 4);
            case 1 -> x.buyLacking();
            case 2 -> x.spill(0, 5, 3);
            case 3 -> x.clean(0);
            case 4 -> x.set(0, 9);
            case 5 -> x.setLine(1);
            case 6 -> x.correct(0);
            case 7 -> x.distribute(0);
            case 8 -> x.pie(1);
            default -> x.sortHeap(2);
        }
    }

    private static void digestOfNewObject() {
        long h = 3449;
        int[] values = {0, 0, 0, 0, 0, 0, 3, 0, 0, 0, 0, 0, 0};
        for (int v : values) {
            h = 31 * h + v;
        }
        int[] widths = {1, 1, 1, 1, 1, 0, 1, 1, 0, 0, 1, 0, 2, 1, 1, 1, 1, 1, 1, 0, 1, 1, 2, 1, 1, 1, 3};
        for (int width : widths) {
            for (int v : new int[] {0, 0, 0, 0, 0, width, -1, 0}) {
                h = 31 * h + v;
            }
        }
        for (int count = 0; count < 3 * 5 + 1; count++) {
            h = 31 * h;
        }
        Check.due("digest() of a new object", new SortsCase().digest(), h);
    }

    private static void digests() {
        SortsCase x = new SortsCase();
        Check.due("digest of a new one", x.digest(), digest(x, "", 0));
        Cases.type(x, "zz a");
        Check.due("digest with a text", x.digest(), digest(x, "zz a", 0));
        Cases.buyFor(x, "aaabbb   ");
        x.spill(1, 0, 2);
        Check.due("digest with boxes", x.digest(), digest(x, "zz a", 4));
        x.setLine(0);
        Cases.setText(x, 0, "c");
        Cases.setText(x, 2, " a");
        x.pie(0);
        Cases.setText(x, 1, "b");
        x.undo();
        Check.due("digest with formes and heap", x.digest(), digest(x, "b", 3));
        x.set(2, 9);
        x.buy(4, 1);
        x.distribute(2);
        Check.due("digest with a slip", x.digest(), digest(x, "b", 4));
        long before = x.digest();
        Check.due("digest again", x.digest(), before);
    }

    /** The digest as the document says it, by what the other calls answer. */
    static long digest(SortsCase x, String text, int saved) {
        long h = 31 * 3449 + text.length();
        for (int i = 0; i < text.length(); i++) {
            h = 31 * h + Cases.number(text.charAt(i));
        }
        for (int what = 0; what <= 11; what++) {
            h = 31 * h + x.value(what);
        }
        for (int letter = 0; letter <= 26; letter++) {
            for (int what = 0; what <= 7; what++) {
                h = 31 * h + x.letter(letter, what);
            }
            for (int index = x.letter(letter, 0) - 1; index >= 0; index--) {
                h = 31 * h + x.inBox(letter, index);
            }
        }
        for (int forme = 0; forme <= 2; forme++) {
            for (int what = 0; what <= 4; what++) {
                h = 31 * h + x.forme(forme, what);
            }
            for (int line = 0; line < x.forme(forme, 0); line++) {
                h = 31 * h + x.places(forme, line);
                for (int place = 0; place < x.places(forme, line); place++) {
                    for (int what = 0; what <= 3; what++) {
                        h = 31 * h + x.place(forme, line, place, what);
                    }
                }
            }
        }
        for (int index = 0; index < x.value(2); index++) {
            h = 31 * h + x.inHeap(index);
        }
        return 31 * h + saved;
    }
}
