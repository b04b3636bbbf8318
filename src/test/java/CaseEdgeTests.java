/** Promises 1 to 9 at their edges: each check stands for a sentence of the document that names one. */
final class CaseEdgeTests {
    private static final int NONE = SortsCase.NONE;

    private CaseEdgeTests() {
    }

    static void run() {
        nothingInANewCase();
        casesAreApart();
        buyingOfEachLetter();
        buyingLeastAndMost();
        buyingUpToTheLimit();
        buyingForNothing();
        whatDoesNotLack();
        buyingLackingOfAllSixteen();
        buyingLackingAtTheLimit();
        buyingLackingForNothing();
        spillingLeastAndMost();
        spillingBetweenFirstAndLast();
        cleaningFirstAndLast();
        cleaningWithNothingOrAllFoul();
        settingLeastAndMost();
        lettersOfAnEmptyCase();
        lackingJustNot();
        foulOnesOfALetter();
        firstAndLastInBox();
        numbersAtTheirEdges();
    }

    /** Promise 1: "Creates a case with empty boxes, formes without lines, and an empty heap; the slip is 0." */
    private static void nothingInANewCase() {
        for (int letter = 0; letter <= 26; letter++) {
            int asked = letter;
            Twins.noIndex("new: inBox(" + letter + ", 0)", SortsCase::new, x -> x.inBox(asked, 0));
            for (int what = 0; what <= 4; what++) {
                Check.due("new: letter(" + letter + ", " + what + ")", new SortsCase().letter(letter, what), 0);
            }
            Check.due("new: letter(" + letter + ", 7)", new SortsCase().letter(letter, 7), 0);
        }
        for (int forme = 0; forme <= 2; forme++) {
            int asked = forme;
            for (int what = 0; what <= 4; what++) {
                Check.due("new: forme(" + forme + ", " + what + ")", new SortsCase().forme(forme, what), 0);
            }
            Twins.noIndex("new: places(" + forme + ", 0)", SortsCase::new, x -> x.places(asked, 0));
            Check.due("new: proof(" + forme + ", 0)", new SortsCase().proof(forme, 0), NONE);
        }
        Twins.noIndex("new: inHeap(0)", SortsCase::new, x -> x.inHeap(0));
        Check.due("new: the previous slip", new SortsCase().set(2, 0), 0);
        Check.due("new: saved states", Twins.states(new SortsCase()).size() - 1, 0);
    }

    /** Promise 1: a new object is new, whatever has been done with another one. */
    private static void casesAreApart() {
        SortsCase first = Cases.rich();
        SortsCase second = new SortsCase();
        Check.due("a second case is new", second.digest(), StateTests.digest(new SortsCase(), "", 0));
        second.buy(0, 1);
        Check.due("the first one is as it was", first.digest(), Cases.rich().digest());
    }

    /** Promise 2: "letter: 0 to 26". */
    private static void buyingOfEachLetter() {
        for (int letter = 0; letter <= 26; letter++) {
            SortsCase x = new SortsCase();
            Check.due("buy(" + letter + ", 2)", x.buy(letter, 2), 2);
            for (int other = 0; other <= 26; other++) {
                Check.due("buy(" + letter + ", 2): box " + other, x.letter(other, 0), other == letter ? 2 : 0);
            }
            Check.due("buy(" + letter + ", 2): its letter", x.inBox(letter, 0), letter);
        }
    }

    /** Promise 2: "many: 1 to 30". */
    private static void buyingLeastAndMost() {
        SortsCase x = new SortsCase();
        Check.due("buy(26, 30)", x.buy(26, 30), 30);
        Check.due("cost of 30", x.value(6), 90);
        Check.due("buy(26, 1)", x.buy(26, 1), 31);
        Check.due("cost of one more", x.value(6), 93);
        Twins.badArgument("buy(26, 31)", SortsCase::new, y -> y.buy(26, 31));
        Twins.badArgument("buy(26, 0)", SortsCase::new, y -> y.buy(26, 0));
    }

    /** Promise 2: "if there would be more than 250 sorts", and these are those in boxes, formes and heap. */
    private static void buyingUpToTheLimit() {
        SortsCase full = Cases.full();
        Check.due("full: in boxes", full.value(0), 250 - 14);
        Check.due("full: in formes", full.value(1), 11);
        Check.due("full: in the heap", full.value(2), 3);
        Check.due("full: all sorts", full.value(3), 250);
        Twins.badState("buy(0, 1) at 250", Cases::full, x -> x.buy(0, 1));
        Twins.badState("buy(26, 30) at 250", Cases::full, x -> x.buy(26, 30));
        SortsCase y = new SortsCase();
        for (int letter = 0; letter < 7; letter++) {
            y.buy(letter, 30);
        }
        Cases.setText(y, 0, "abcd");
        y.pie(0);
        Cases.setText(y, 0, "abc");
        y.buy(26, 11);
        Check.badState("buy(7, 30) at 221", y, () -> y.buy(7, 30));
        Check.due("buy(7, 29) at 221", y.buy(7, 29), 29);
        Check.due("all sorts then", y.value(3), 250);
        y.undo();
        Check.due("undo makes room", y.buy(7, 29), 29);
    }

    /** Promise 6: "price: 0 to 99"; terms: "A bought sort costs the price, 0 to 99, initially 3". */
    private static void buyingForNothing() {
        SortsCase x = new SortsCase();
        x.set(0, 0);
        x.buy(0, 30);
        Check.due("cost at price 0", x.value(6), 0);
        x.set(0, 99);
        Check.due("what is bought already costs no more", x.value(6), 0);
        x.buy(0, 30);
        Check.due("cost at price 99", x.value(6), 2970);
        x.set(0, 1);
        x.buy(0, 1);
        Check.due("cost at price 1", x.value(6), 2971);
    }

    /** Promise 3: only sorts of the letter in its own box count against the text. */
    private static void whatDoesNotLack() {
        SortsCase x = new SortsCase();
        Cases.buyFor(x, "aaab");
        Cases.setText(x, 0, "a");
        x.pie(0);
        Cases.setText(x, 0, "a");
        x.spill(0, 1, 1);
        // One a is in the heap, one in a forme, one foul in the box of b; the b has its foul one above it.
        Cases.type(x, "ab");
        Check.due("only the a lacks", x.buyLacking(), 1);
        Cases.dueText("box a", Cases.box(x, 'a'), "a");
        Cases.dueText("box b", Cases.box(x, 'b'), "ba");
        Check.due("then none lacks", x.buyLacking(), 0);
    }

    /** Promise 3 with the longest text; terms: "The text has at most 16 bytes". */
    private static void buyingLackingOfAllSixteen() {
        SortsCase x = new SortsCase();
        Cases.type(x, " z".repeat(8));
        Check.due("16 lack", x.buyLacking(), 16);
        Check.due("spaces", x.letter(26, 0), 8);
        Check.due("letters z", x.letter(25, 0), 8);
        Cases.type(x, "abcdefghijklmnop");
        Check.due("one of each lacks", x.buyLacking(), 16);
        for (int letter = 0; letter < 16; letter++) {
            Check.due("one in box " + letter, x.letter(letter, 0), 1);
        }
    }

    /** Promise 3: "if there would be more than 250 sorts"; nothing is bought then, of no letter. */
    private static void buyingLackingAtTheLimit() {
        Twins.badState("buyLacking of two at 249", () -> withText(249, "xz"), SortsCase::buyLacking);
        Twins.badState("buyLacking of one at 250", () -> withText(250, "z"), SortsCase::buyLacking);
        Twins.badState("buyLacking of 16 at 235", () -> withText(235, "zzzzzzzzzzzzzzzz"), SortsCase::buyLacking);
        Check.due("buyLacking of 16 at 234", withText(234, "zzzzzzzzzzzzzzzz").buyLacking(), 16);
        Check.due("buyLacking of one at 249", withText(249, "z").buyLacking(), 1);
        Check.due("buyLacking of none at 250", withText(250, "").buyLacking(), 0);
        SortsCase full = Cases.full();
        Cases.type(full, "z");
        Check.badState("sorts in formes and heap count", full, full::buyLacking);
    }

    /** This many sorts, of letters up to "i". */
    private static SortsCase withText(int sorts, String text) {
        SortsCase x = new SortsCase();
        for (int letter = 0; letter * 30 < sorts; letter++) {
            x.buy(letter, Math.min(30, sorts - letter * 30));
        }
        Cases.type(x, text);
        return x;
    }

    private static void buyingLackingForNothing() {
        SortsCase x = new SortsCase();
        x.set(0, 0);
        Cases.type(x, "ab");
        Check.due("buyLacking", x.buyLacking(), 2);
        Check.due("cost at price 0", x.value(6), 0);
        x.clearText();
        Check.due("without text", x.buyLacking(), 0);
        Check.due("buying is no work", x.value(7), 0);
    }

    /** Promise 4: "many: 1 to 30", and the box from has as many, or one fewer. */
    private static void spillingLeastAndMost() {
        Check.due("spill(0, 1, 1) of 30", withText(30, "").spill(0, 1, 1), 29);
        Check.due("spill(0, 1, 30) of 30", withText(30, "").spill(0, 1, 30), 0);
        Check.due("spill(0, 2, 29) of 30", withText(31, "").spill(0, 2, 29), 1);
        Check.due("spill(1, 2, 1) of one", withText(31, "").spill(1, 2, 1), 0);
        Twins.badState("spill(0, 1, 30) of 29", () -> withText(29, ""), x -> x.spill(0, 1, 30));
        Twins.badState("spill(1, 2, 2) of one", () -> withText(31, ""), x -> x.spill(1, 2, 2));
        Twins.badState("spill(1, 0, 1) of none", () -> withText(30, ""), x -> x.spill(1, 0, 1));
        Twins.badArgument("spill(0, 1, 31) of 31", CaseEdgeTests::oneAndThirty, x -> x.spill(0, 1, 31));
        Twins.badArgument("spill(0, 1, 0)", CaseEdgeTests::oneAndThirty, x -> x.spill(0, 1, 0));
    }

    private static SortsCase oneAndThirty() {
        SortsCase x = new SortsCase();
        x.buy(0, 30);
        x.buy(0, 1);
        return x;
    }

    private static void spillingBetweenFirstAndLast() {
        SortsCase x = new SortsCase();
        Cases.buyFor(x, "ab  ");
        Check.due("spill(26, 0, 1)", x.spill(26, 0, 1), 1);
        Check.due("spill(0, 26, 2)", x.spill(0, 26, 2), 0);
        Cases.dueText("the topmost first", Cases.box(x, ' '), "  a");
        Check.due("back", x.spill(26, 0, 3), 0);
        Cases.dueText("turned round once more", Cases.box(x, 'a'), "a  ");
        Twins.badArgument("spill(26, 26, 1)", Cases::rich, y -> y.spill(26, 26, 1));
        Twins.noIndex("spill(27, 26, 1)", Cases::rich, y -> y.spill(27, 26, 1));
        Twins.noIndex("spill(26, 27, 1)", Cases::rich, y -> y.spill(26, 27, 1));
    }

    /** Promise 5: "letter: 0 to 26". */
    private static void cleaningFirstAndLast() {
        SortsCase x = new SortsCase();
        Cases.buyFor(x, "a z");
        x.spill(0, 26, 1);
        x.spill(25, 0, 1);
        Check.due("clean(26)", x.clean(26), 1);
        Cases.dueText("the a lies on the z", Cases.box(x, 'a'), "za");
        Check.due("clean(0)", x.clean(0), 1);
        Cases.dueText("box a", Cases.box(x, 'a'), "a");
        Cases.dueText("box z", Cases.box(x, 'z'), "z");
        Cases.dueText("box of the space", Cases.box(x, ' '), " ");
        Check.due("two minutes for each", x.value(7), 4);
    }

    private static void cleaningWithNothingOrAllFoul() {
        for (int letter = 0; letter <= 26; letter++) {
            Check.due("clean(" + letter + ") of a new case", new SortsCase().clean(letter), 0);
        }
        SortsCase x = new SortsCase();
        x.buy(0, 30);
        x.spill(0, 26, 30);
        Check.due("clean of none in 30", x.clean(0), 0);
        Check.due("clean of 30 in 30", x.clean(26), 30);
        Check.due("the box is empty", x.letter(26, 0), 0);
        Check.due("all are back", x.letter(0, 0), 30);
        Check.due("minutes", x.value(7), 60);
        Check.due("none is foul", x.value(9), 0);
    }

    /** Promise 6: "slip: 0, or 2 to 50", "price: 0 to 99". */
    private static void settingLeastAndMost() {
        int[] slips = {0, 2, 3, 49, 50, 0};
        int[] prices = {0, 1, 98, 99, 3, 0};
        SortsCase x = new SortsCase();
        for (int index = 0; index < slips.length; index++) {
            int previous = index == 0 ? 0 : slips[index - 1];
            Check.due("the slip before " + slips[index], x.set(slips[index], prices[index]), previous);
            Check.due("slip " + slips[index], x.value(4), slips[index]);
            Check.due("price " + prices[index], x.value(5), prices[index]);
        }
        for (int slip : new int[] {-1, 1, 51}) {
            Twins.badArgument("set(" + slip + ", 50)", Cases::rich, y -> y.set(slip, 50));
            Twins.badArgument("set(" + slip + ", 100)", Cases::rich, y -> y.set(slip, 100));
        }
        for (int price : new int[] {-1, 100}) {
            Twins.badArgument("set(0, " + price + ")", Cases::rich, y -> y.set(0, price));
            Twins.badArgument("set(50, " + price + ")", Cases::rich, y -> y.set(50, price));
        }
    }

    /** Promise 7: "NONE if it is empty"; the letters of the text lack then. */
    private static void lettersOfAnEmptyCase() {
        SortsCase x = new SortsCase();
        Cases.type(x, "a  zzzzzzzzzzzzz");
        for (int letter = 0; letter <= 26; letter++) {
            Check.due("topmost of empty box " + letter, x.letter(letter, 6), NONE);
            Check.due("lacking of " + letter, x.letter(letter, 7), letter == 0 ? 1 : letter == 25 ? 13
                    : letter == 26 ? 2 : 0);
        }
        x.buy(0, 1);
        Check.due("topmost of a box with one", x.letter(0, 6), 0);
        x.spill(0, 26, 1);
        Check.due("topmost of a box with a foul one", x.letter(26, 6), 0);
        Check.due("a box that is empty again", x.letter(0, 6), NONE);
    }

    /** Promise 7: "(0 if not more)". */
    private static void lackingJustNot() {
        SortsCase x = new SortsCase();
        x.buy(0, 2);
        x.buy(1, 9);
        x.spill(1, 0, 3);
        String[] texts = {"", "a", "aa", "aaa", "aaaa", "aaaaaaaaaaaaaaaa"};
        int[] due = {0, 0, 0, 1, 2, 14};
        for (int index = 0; index < texts.length; index++) {
            Cases.type(x, texts[index]);
            Check.due("lacking of '" + texts[index] + "'", x.letter(0, 7), due[index]);
        }
    }

    /** Promise 7: 1 the foul ones in its box, 2 the sorts of this letter in all boxes, 3 in all formes, 4 heap. */
    private static void foulOnesOfALetter() {
        SortsCase x = new SortsCase();
        x.buy(26, 5);
        x.buy(0, 2);
        x.spill(26, 25, 2);
        x.spill(0, 26, 1);
        Check.due("foul ones in the box of the space", x.letter(26, 1), 1);
        Check.due("foul ones in the box of z", x.letter(25, 1), 2);
        Check.due("spaces in all boxes", x.letter(26, 2), 5);
        Check.due("z in all boxes", x.letter(25, 2), 0);
        Cases.setText(x, 2, "zz");
        Check.due("spaces in all formes", x.letter(26, 3), 2);
        Check.due("z in all formes, the wanted letter does not count", x.letter(25, 3), 0);
        x.pie(2);
        Check.due("spaces in the heap", x.letter(26, 4), 2);
        Check.due("none in the formes", x.letter(26, 3), 0);
        Check.due("z in the heap", x.letter(25, 4), 0);
        for (int what : new int[] {0, 7}) {
            Check.due("letter(26, " + what + ")", x.letter(26, what), what == 0 ? 4 : 0);
        }
    }

    /** Promise 8: "0 for the topmost sort", and "the box has not so many sorts". */
    private static void firstAndLastInBox() {
        SortsCase x = new SortsCase();
        x.buy(26, 30);
        x.buy(0, 1);
        x.spill(0, 26, 1);
        Check.due("inBox(26, 0)", x.inBox(26, 0), 0);
        Check.due("inBox(26, 1)", x.inBox(26, 1), 26);
        Check.due("inBox(26, 30)", x.inBox(26, 30), 26);
        Check.noIndex("inBox(26, 31)", x, () -> x.inBox(26, 31));
        Check.noIndex("inBox(26, -1)", x, () -> x.inBox(26, -1));
        Check.noIndex("inBox(0, 0) of an emptied box", x, () -> x.inBox(0, 0));
        Check.noIndex("inBox(27, 0)", x, () -> x.inBox(27, 0));
        Check.noIndex("inBox(-1, 0)", x, () -> x.inBox(-1, 0));
        x.spill(26, 0, 1);
        Check.noIndex("inBox(26, 30) with one fewer", x, () -> x.inBox(26, 30));
        Check.due("inBox(0, 0)", x.inBox(0, 0), 0);
    }

    /** Promise 9: each number when there is as little, or as much, of it as there can be. */
    private static void numbersAtTheirEdges() {
        SortsCase x = new SortsCase();
        for (char sign : "knopqrsu".toCharArray()) {
            x.buy(Cases.number(sign), 30);
        }
        x.buy(Cases.number('v'), 10);
        Cases.type(x, "bbbbbbbbbbbbbbbb");
        int[] due = {250, 0, 0, 250, 0, 3, 750, 0, 0, 0, 0, 0};
        dueValues("250 in the boxes", x, due);
        x.spill(Cases.number('k'), Cases.number('n'), 30);
        x.spill(Cases.number('o'), Cases.number('n'), 30);
        Check.due("60 foul ones", x.value(9), 60);
        for (int count = 0; count < 15; count++) {
            x.setLine(count % 3);
        }
        Check.due("15 lines", x.value(1), 240);
        Check.due("sorts left", x.value(0), 10);
        Check.due("all are turned", x.value(11), 240);
        Check.due("all are errors", x.value(10), 240);
        Check.due("minutes", x.value(7), 240);
        for (int forme = 0; forme < 3; forme++) {
            x.pie(forme);
        }
        Check.due("heap", x.value(2), 240);
        Check.due("no errors", x.value(10) + x.value(11) + x.value(1), 0);
        Check.due("all sorts", x.value(3), 250);
        Twins.badArgument("value(-1)", Cases::rich, y -> y.value(-1));
        Twins.badArgument("value(12)", Cases::rich, y -> y.value(12));
    }

    private static void dueValues(String what, SortsCase x, int[] due) {
        for (int index = 0; index < due.length; index++) {
            Check.due(what + ": value(" + index + ")", x.value(index), due[index]);
        }
    }
}
