/** Promises 1 to 9: a new object, and the calls of the case. */
final class CaseTests {
    private CaseTests() {
    }

    static void run() {
        newObject();
        buying();
        buyingWrongly();
        buyingLacking();
        buyingLackingBeyondTheLimit();
        spilling();
        spillingWrongly();
        cleaning();
        setting();
        letters();
        widths();
        lookingIntoBoxes();
        values();
    }

    private static void newObject() {
        SortsCase x = new SortsCase();
        int[] values = {0, 0, 0, 0, 0, 3, 0, 0, 0, 0, 0, 0};
        for (int what = 0; what < values.length; what++) {
            Check.due("new: value(" + what + ")", x.value(what), values[what]);
        }
        for (int letter = 0; letter < 27; letter++) {
            Check.due("new: letter(" + letter + ", 0)", x.letter(letter, 0), 0);
            Check.due("new: letter(" + letter + ", 6)", x.letter(letter, 6), SortsCase.NONE);
        }
        for (int forme = 0; forme < 3; forme++) {
            Check.due("new: forme(" + forme + ", 0)", x.forme(forme, 0), 0);
        }
        Check.due("new: the text", x.clearText(), 0);
        Check.badState("new: undo()", x, x::undo);
        Check.due("NONE", SortsCase.NONE, -1);
    }

    private static void buying() {
        SortsCase x = new SortsCase();
        Check.due("buy(0, 1)", x.buy(0, 1), 1);
        Check.due("buy(0, 30)", x.buy(0, 30), 31);
        Check.due("buy(26, 2)", x.buy(26, 2), 2);
        Check.due("cost at the first price", x.value(6), 99);
        Check.due("buying is no work", x.value(7), 0);
        x.set(0, 99);
        x.spill(0, 26, 1);
        Check.due("buy(26, 1) on a foul sort", x.buy(26, 1), 4);
        Check.due("cost at the highest price", x.value(6), 198);
        Cases.dueText("bought on top", Cases.box(x, ' '), "  a ");
        Check.due("buy, undo", x.undo(), 3);
        Cases.dueText("bought away", Cases.box(x, ' '), "  a");
        Check.due("cost undone", x.value(6), 99);
    }

    private static void buyingWrongly() {
        SortsCase x = new SortsCase();
        for (int letter : new int[] {27, -1, Integer.MIN_VALUE, Integer.MAX_VALUE}) {
            Check.noIndex("buy of no letter", x, () -> x.buy(letter, 0));
        }
        for (int many : new int[] {0, 31, -1, Integer.MIN_VALUE, Integer.MAX_VALUE}) {
            Check.badArgument("buy(0, " + many + ")", x, () -> x.buy(0, many));
        }
        for (int letter = 0; letter < 8; letter++) {
            x.buy(letter, 30);
        }
        Check.badState("buy to 251", x, () -> x.buy(9, 11));
        Check.due("buy to 250", x.buy(9, 10), 10);
        Check.badState("buy at 250", x, () -> x.buy(9, 1));
        Check.badArgument("buy at 250, too many", x, () -> x.buy(9, 31));
        Check.noIndex("buy at 250, no letter", x, () -> x.buy(27, 31));
        Cases.setText(x, 0, "abc");
        x.pie(0);
        Cases.setText(x, 1, "ddd");
        Check.badState("sorts in heap and forme count", x, () -> x.buy(9, 1));
    }

    private static void buyingLacking() {
        SortsCase x = new SortsCase();
        Check.due("buyLacking without text", x.buyLacking(), 0);
        Check.due("it is undoable all the same", x.undo(), 0);
        Cases.buyFor(x, "aab");
        x.spill(0, 1, 1);
        Cases.type(x, "aaabb z");
        x.set(0, 7);
        Check.due("buyLacking", x.buyLacking(), 5);
        Cases.dueText("box a", Cases.box(x, 'a'), "aaa");
        Cases.dueText("box b, a foul one does not help", Cases.box(x, 'b'), "bab");
        Cases.dueText("box of the space", Cases.box(x, ' '), " ");
        Cases.dueText("box z", Cases.box(x, 'z'), "z");
        Check.due("cost", x.value(6), 9 + 35);
        Check.due("nothing lacks then", x.buyLacking(), 0);
        x.undo();
        x.undo();
        Check.due("undone", x.value(3), 3);
        Check.due("the text stays", x.clearText(), 7);
    }

    private static void buyingLackingBeyondTheLimit() {
        SortsCase x = new SortsCase();
        for (int letter = 0; letter < 8; letter++) {
            x.buy(letter, 30);
        }
        Cases.type(x, "zzzzzzzzzzz");
        Check.badState("buyLacking to 251", x, x::buyLacking);
        Cases.type(x, "zzzzzyyyyya");
        Check.due("buyLacking to 250", x.buyLacking(), 10);
        Check.due("all sorts", x.value(3), 250);
        Cases.type(x, "abc");
        Check.due("buyLacking of nothing at 250", x.buyLacking(), 0);
    }

    private static void spilling() {
        SortsCase x = new SortsCase();
        Cases.buyFor(x, "abbbcc");
        Check.due("spill(1, 0, 2)", x.spill(1, 0, 2), 1);
        Check.due("spill(2, 0, 1)", x.spill(2, 0, 1), 1);
        Cases.dueText("spilt on top", Cases.box(x, 'a'), "abbc");
        Check.due("spill of mixed ones", x.spill(0, 26, 3), 1);
        Cases.dueText("the topmost first", Cases.box(x, ' '), "cbb");
        Check.due("spill of the last", x.spill(0, 1, 1), 0);
        Check.due("no work", x.value(7), 0);
        Check.due("undo", x.undo(), 3);
        Cases.dueText("spilt back", Cases.box(x, 'a'), "a");
        x.buy(3, 30);
        x.spill(0, 3, 1);
        Check.due("spill(3, 4, 30)", x.spill(3, 4, 30), 1);
        Check.due("foul ones spilt", x.letter(4, 1), 30);
        Check.due("the foul one spilt first", x.inBox(4, 29), 0);
    }

    private static void spillingWrongly() {
        SortsCase x = new SortsCase();
        x.buy(0, 2);
        for (int wrong : new int[] {27, -1, Integer.MIN_VALUE, Integer.MAX_VALUE}) {
            Check.noIndex("spill from no box", x, () -> x.spill(wrong, 0, 0));
            Check.noIndex("spill to no box", x, () -> x.spill(0, wrong, 0));
            Check.noIndex("spill from no box to itself", x, () -> x.spill(wrong, wrong, 1));
        }
        Check.badArgument("spill to itself", x, () -> x.spill(0, 0, 1));
        Check.badArgument("spill of too many to itself", x, () -> x.spill(0, 0, 3));
        for (int many : new int[] {0, 31, -1, Integer.MIN_VALUE, Integer.MAX_VALUE}) {
            Check.badArgument("spill(0, 1, " + many + ")", x, () -> x.spill(0, 1, many));
        }
        Check.badState("spill of more than there are", x, () -> x.spill(0, 1, 3));
        Check.badState("spill from an empty box", x, () -> x.spill(1, 0, 1));
    }

    private static void cleaning() {
        SortsCase x = new SortsCase();
        Cases.buyFor(x, "abcde ");
        x.spill(0, 4, 1);
        x.spill(1, 4, 1);
        x.buy(4, 1);
        x.buy(1, 1);
        x.spill(26, 4, 1);
        x.spill(1, 4, 1);
        x.buy(1, 2);
        Cases.dueText("foul box", Cases.box(x, 'e'), "eabe b");
        Check.due("clean(4)", x.clean(4), 4);
        Cases.dueText("cleaned box", Cases.box(x, 'e'), "ee");
        Cases.dueText("a back", Cases.box(x, 'a'), "a");
        Cases.dueText("both b back on top", Cases.box(x, 'b'), "bbbb");
        Cases.dueText("space back", Cases.box(x, ' '), " ");
        Check.due("minutes", x.value(7), 8);
        Check.due("clean box", x.clean(4), 0);
        Check.due("no more minutes", x.value(7), 8);
        Check.due("empty box", x.clean(25), 0);
        Check.due("undo of nothing", x.undo(), 3);
        x.undo();
        Check.due("undo of the cleaning", x.undo(), 1);
        Cases.dueText("foul again", Cases.box(x, 'e'), "eabe b");
        Check.due("no minutes again", x.value(7), 0);
        cleaningKeepsOrder();
        SortsCase y = new SortsCase();
        for (int letter : new int[] {27, -1, Integer.MIN_VALUE, Integer.MAX_VALUE}) {
            Check.noIndex("clean of no letter", y, () -> y.clean(letter));
        }
    }

    /** A foul sort goes onto the top of a box that is foul itself. */
    private static void cleaningKeepsOrder() {
        SortsCase x = new SortsCase();
        Cases.buyFor(x, "abbc");
        x.spill(2, 0, 1);
        x.spill(0, 1, 2);
        Cases.dueText("box b", Cases.box(x, 'b'), "bbca");
        x.buy(0, 1);
        x.spill(1, 0, 2);
        x.buy(1, 1);
        x.spill(1, 0, 2);
        Cases.dueText("box a", Cases.box(x, 'a'), "aacbb");
        x.buy(3, 1);
        x.spill(3, 1, 1);
        Cases.dueText("box b", Cases.box(x, 'b'), "bd");
        Check.due("clean(0)", x.clean(0), 3);
        Cases.dueText("box a then", Cases.box(x, 'a'), "aa");
        Cases.dueText("box b then", Cases.box(x, 'b'), "bdbb");
        Cases.dueText("box c then", Cases.box(x, 'c'), "c");
    }

    private static void setting() {
        SortsCase x = new SortsCase();
        Check.due("set(2, 0)", x.set(2, 0), 0);
        Check.due("set(50, 99)", x.set(50, 99), 2);
        Check.due("slip", x.value(4), 50);
        Check.due("price", x.value(5), 99);
        Check.due("set(0, 1)", x.set(0, 1), 50);
        Check.due("no slip", x.value(4), 0);
        Check.due("undo", x.undo(), 2);
        Check.due("slip again", x.value(4), 50);
        Check.due("price again", x.value(5), 99);
        for (int slip : new int[] {1, 51, -1, -2, Integer.MIN_VALUE, Integer.MAX_VALUE}) {
            Check.badArgument("set(" + slip + ", 0)", x, () -> x.set(slip, 0));
        }
        for (int price : new int[] {-1, 100, Integer.MIN_VALUE, Integer.MAX_VALUE}) {
            Check.badArgument("set(0, " + price + ")", x, () -> x.set(0, price));
            Check.badArgument("set(2, " + price + ")", x, () -> x.set(2, price));
        }
    }

    private static void letters() {
        SortsCase x = new SortsCase();
        Cases.buyFor(x, "aaaabbcc");
        x.spill(0, 1, 2);
        Cases.setText(x, 0, "cb");
        Cases.setText(x, 1, "a");
        x.spill(2, 0, 1);
        Cases.setText(x, 2, "b");
        x.pie(2);
        // Now: a has "ac", b has "bb"; forme 0 has "ca" (an a for the b), forme 1 "a"; the heap has an a.
        Cases.dueText("box a", Cases.box(x, 'a'), "ac");
        Cases.type(x, "aab ba");
        int[] due = {2, 1, 1, 2, 1, 1, 2, 2};
        for (int what = 0; what < due.length; what++) {
            Check.due("letter(0, " + what + ")", x.letter(0, what), due[what]);
        }
        int[] dueOfB = {2, 0, 2, 0, 0, 1, 1, 0};
        for (int what = 0; what < dueOfB.length; what++) {
            Check.due("letter(1, " + what + ")", x.letter(1, what), dueOfB[what]);
        }
        int[] dueOfC = {0, 0, 1, 1, 0, 1, SortsCase.NONE, 0};
        for (int what = 0; what < dueOfC.length; what++) {
            Check.due("letter(2, " + what + ")", x.letter(2, what), dueOfC[what]);
        }
        Check.due("a space lacks", x.letter(26, 7), 1);
        for (int letter : new int[] {27, -1, Integer.MIN_VALUE, Integer.MAX_VALUE}) {
            Check.noIndex("letter of no letter", x, () -> x.letter(letter, 8));
        }
        for (int what : new int[] {8, -1, Integer.MIN_VALUE, Integer.MAX_VALUE}) {
            Check.badArgument("letter(0, " + what + ")", x, () -> x.letter(0, what));
        }
    }

    private static void widths() {
        SortsCase x = new SortsCase();
        for (char sign = 'a'; sign <= 'z'; sign++) {
            int due = "fijlt".indexOf(sign) >= 0 ? 0 : "mw".indexOf(sign) >= 0 ? 2 : 1;
            Check.due("width of " + sign, x.letter(Cases.number(sign), 5), due);
        }
        Check.due("width of the space", x.letter(26, 5), 3);
    }

    private static void lookingIntoBoxes() {
        SortsCase x = new SortsCase();
        Cases.buyFor(x, "abc");
        x.spill(1, 0, 1);
        x.spill(2, 0, 1);
        Check.due("inBox(0, 0)", x.inBox(0, 0), 2);
        Check.due("inBox(0, 1)", x.inBox(0, 1), 1);
        Check.due("inBox(0, 2)", x.inBox(0, 2), 0);
        for (int index : new int[] {3, -1, Integer.MIN_VALUE, Integer.MAX_VALUE}) {
            Check.noIndex("inBox(0, " + index + ")", x, () -> x.inBox(0, index));
        }
        for (int letter : new int[] {27, -1, Integer.MIN_VALUE, Integer.MAX_VALUE}) {
            Check.noIndex("inBox of no letter", x, () -> x.inBox(letter, 0));
        }
        Check.noIndex("inBox of an empty box", x, () -> x.inBox(1, 0));
    }

    private static void values() {
        SortsCase x = new SortsCase();
        x.buy(0, 6);
        x.buy(1, 4);
        x.spill(0, 1, 2);
        x.spill(1, 0, 1);
        Cases.setText(x, 0, "abc");
        Cases.setText(x, 1, "bb");
        Cases.setText(x, 2, "a");
        x.distribute(2);
        Cases.setText(x, 2, "a");
        x.pie(2);
        x.set(9, 8);
        int[] due = {4, 5, 1, 10, 9, 8, 30, 8, 1, 0, 2, 1};
        for (int what = 0; what < due.length; what++) {
            Check.due("value(" + what + ")", x.value(what), due[what]);
        }
        x.spill(0, 25, 1);
        Check.due("value(9) of a foul sort", x.value(9), 1);
        for (int what : new int[] {12, -1, Integer.MIN_VALUE, Integer.MAX_VALUE}) {
            Check.badArgument("value(" + what + ")", x, () -> x.value(what));
        }
    }
}
