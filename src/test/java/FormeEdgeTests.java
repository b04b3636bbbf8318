/** Promises 10 to 19 at their edges: each check stands for a sentence of the document that names one. */
final class FormeEdgeTests {
    private static final int NONE = SortsCase.NONE;

    private FormeEdgeTests() {
    }

    static void run() {
        settingTheFifthLine();
        settingShortAndLongLines();
        settingWhileABoxRunsOut();
        settingFromFoulBoxes();
        borrowingWithinAWidth();
        borrowingNoSpace();
        borrowingFromTheFullest();
        borrowingWhileBoxesShrink();
        borrowingFoulOnes();
        notSettingTheLastPlace();
        correctingNothing();
        correctingWithoutSorts();
        correctingUnderFoulOnes();
        correctingTheWantedLetterTurned();
        correctingWithWhatCameBack();
        correctingOneForme();
        distributingNothing();
        distributingWithoutSlip();
        distributingAtTheLeastAndMostSlip();
        distributingRoundTheLastLetter();
        distributingGoesOnCounting();
        distributingByTheSortsLetter();
        pieingNothing();
        pieingBehindTheHeap();
        sortingLeastAndMost();
        formesFullAndEmpty();
        correctableOneAfterTheOther();
        placesOfTheLastLine();
        firstAndLastPlace();
        proofsAtTheirEnd();
        heapAtItsEnd();
    }

    /** Promise 10: "the forme has 5 lines"; terms: "at most 5 lines, numbered from 0". */
    private static void settingTheFifthLine() {
        for (int forme = 0; forme <= 2; forme++) {
            SortsCase x = Cases.with("aaaaaa", "a");
            for (int line = 0; line <= 4; line++) {
                Check.due("setLine(" + forme + ")", x.setLine(forme), line);
            }
            Check.due("sorts left", x.value(0), 1);
        }
        Twins.badState("a sixth line", Cases::fullForme, x -> x.setLine(0));
        SortsCase y = Cases.fullForme();
        Check.due("a line of another forme", y.setLine(2), 0);
        y.undo();
        y.undo();
        Check.due("the fifth line once more", y.setLine(0), 4);
        y.distribute(0);
        Check.due("the first line of a distributed forme", y.setLine(0), 0);
        y.pie(0);
        Check.due("the first line of a pied forme", y.setLine(0), 0);
    }

    /** Terms: "a line has 1 to 16 places". */
    private static void settingShortAndLongLines() {
        SortsCase x = Cases.with("a", "a");
        x.buy(26, 15);
        Check.due("a line of one place", x.setLine(0), 0);
        Check.due("its places", x.places(0, 0), 1);
        x.buy(0, 1);
        Cases.type(x, "               a");
        Check.due("a line of 16 places", x.setLine(0), 1);
        Check.due("its places", x.places(0, 1), 16);
        Check.due("the boxes are empty", x.value(0), 0);
        Check.due("a minute for each", x.value(7), 17);
        Check.due("the text stays", x.clearText(), 16);
        Twins.badState("no line without text", () -> Cases.with("a", ""), y -> y.setLine(0));
    }

    /** Terms: "if the box of the letter has sorts", from one place to the next. */
    private static void settingWhileABoxRunsOut() {
        SortsCase x = Cases.with("ab", "aa");
        Check.due("setLine(0)", x.setLine(0), 0);
        Cases.dueText("the first from its box, the second borrowed", Cases.line(x, 0, 0), "aB");
        SortsCase y = Cases.with("ab", "ca");
        y.setLine(0);
        Cases.dueText("the a is lent away before it is wanted", Cases.line(y, 0, 0), "AB");
        Check.due("turned", y.value(11), 2);
    }

    /** Terms: "the topmost one is taken, whatever its letter is, and put in upright". */
    private static void settingFromFoulBoxes() {
        SortsCase x = Cases.with("amb ", "aaaa");
        x.spill(12, 0, 1);
        x.spill(26, 0, 1);
        x.spill(1, 0, 1);
        Check.due("setLine(1)", x.setLine(1), 0);
        Cases.dueText("from the top of the box", Cases.line(x, 1, 0), "b ma");
        Check.due("none is turned", x.forme(1, 3), 0);
        Check.due("three errors", x.forme(1, 2), 3);
        Check.due("the last one is none", x.place(1, 0, 3, 3), 0);
        SortsCase y = Cases.with("a ", " ");
        y.spill(0, 26, 1);
        y.setLine(0);
        Check.due("an a for the space", y.place(0, 0, 0, 1), 0);
        Check.due("upright", y.place(0, 0, 0, 2), 0);
    }

    /** Terms: "of the boxes of letters of the same width", and "If there is none, the line cannot be set". */
    private static void borrowingWithinAWidth() {
        String[] wanted = {"i", "a", "m", " "};
        String[] there = {"f", "z", "w", " "};
        for (int row = 0; row < wanted.length; row++) {
            for (int column = 0; column < there.length; column++) {
                int due = row == column ? row == 3 ? 0 : 1 : NONE;
                String what = "'" + wanted[row] + "' with '" + there[column] + "': ";
                String sorts = there[column].repeat(3);
                String text = wanted[row];
                Check.due(what + "errorsIfSet()", Cases.with(sorts, text).errorsIfSet(), due);
                Check.due(what + "turnedIfSet()", Cases.with(sorts, text).turnedIfSet(), due);
                if (due == NONE) {
                    Twins.badState(what + "setLine(0)", () -> Cases.with(sorts, text), x -> x.setLine(0));
                } else {
                    Check.due(what + "setLine(0)", Cases.with(sorts, text).setLine(0), 0);
                }
            }
        }
        lendersOfEachWidth("fijlt");
        lendersOfEachWidth("abcdeghknopqrsuvxyz");
        lendersOfEachWidth("mw");
    }

    private static void lendersOfEachWidth(String letters) {
        for (char wanted : letters.toCharArray()) {
            for (char lender : letters.toCharArray()) {
                SortsCase x = Cases.with(String.valueOf(lender), String.valueOf(wanted));
                Check.due(wanted + " from the box of " + lender, x.turnedIfSet(), wanted == lender ? 0 : 1);
            }
        }
    }

    /** Terms: "if the letter is not the space"; a space in another box is no help. */
    private static void borrowingNoSpace() {
        Twins.badState("a foul space is not lent", () -> {
            SortsCase x = Cases.with("a a ", " ");
            x.spill(26, 0, 2);
            return x;
        }, x -> x.setLine(0));
        SortsCase y = Cases.with("b ", "  ");
        Check.due("the second space lacks", y.errorsIfSet(), NONE);
        y.buy(26, 1);
        Check.due("both spaces are there", y.errorsIfSet(), 0);
    }

    /** Terms: "that with the most sorts, of several that of the lowest letter". */
    private static void borrowingFromTheFullest() {
        Cases.dueText("the fullest", afterSetting("bccd", "a"), "C");
        Cases.dueText("the fullest, the last one", afterSetting("bczz", "a"), "Z");
        Cases.dueText("the fullest, the first one", afterSetting("aabz", "y"), "A");
        Cases.dueText("of two the lowest", afterSetting("bzzdd", "a"), "D");
        Cases.dueText("of all the lowest", afterSetting("zyxcb", "a"), "B");
        Cases.dueText("of two below it", afterSetting("aabbc", "z"), "A");
        Cases.dueText("thin ones", afterSetting("iillf", "t"), "I");
        Cases.dueText("fullest of the same width alone", afterSetting("mmmmlaaa    ", "f"), "L");
    }

    private static String afterSetting(String sorts, String text) {
        SortsCase x = Cases.with(sorts, text);
        x.setLine(0);
        return Cases.line(x, 0, 0);
    }

    /** Terms: "for its letters from the first to the last one"; the fullest box is another one each time. */
    private static void borrowingWhileBoxesShrink() {
        Cases.dueText("the fullest in turn", afterSetting("bbcccd", "aaaaaa"), "CBCBCD");
        Cases.dueText("own boxes in between", afterSetting("bbcc", "abac"), "BbCc");
        SortsCase x = Cases.with("bbc", "a");
        x.spill(2, 1, 1);
        Check.due("a foul one counts", x.letter(1, 0), 3);
        Cases.buyFor(x, "cc");
        x.setLine(0);
        Cases.dueText("from the box with most sorts, foul ones, too", Cases.line(x, 0, 0), "C");
        Cases.dueText("it came from the box of b", Cases.box(x, 'b'), "bb");
    }

    /** Terms: "gives its topmost one, whatever its letter is, and it is put in turned". */
    private static void borrowingFoulOnes() {
        SortsCase x = Cases.with("bm a", "ccc");
        x.spill(0, 1, 1);
        x.spill(26, 1, 1);
        x.spill(12, 1, 1);
        Cases.dueText("box b", Cases.box(x, 'b'), "ba m");
        x.setLine(0);
        int[] due = {12, 26, 0};
        for (int place = 0; place < due.length; place++) {
            Check.due("sort at " + place, x.place(0, 0, place, 1), due[place]);
            Check.due("turned at " + place, x.place(0, 0, place, 2), 1);
            Check.due("wanted at " + place, x.place(0, 0, place, 0), 2);
        }
    }

    /** "A call that throws an exception changes nothing": the sorts of the first places are in their boxes. */
    private static void notSettingTheLastPlace() {
        Twins.badState("the last place cannot be set", () -> Cases.with("abbbcc ", "abcabc  "), x -> x.setLine(0));
        Twins.badState("the boxes run out", () -> Cases.with("abc", "aaaa"), x -> x.setLine(2));
        Check.due("just not", Cases.with("abc", "aaa").setLine(2), 0);
        Twins.badState("behind other lines", () -> {
            SortsCase x = Cases.with("aaab", "ac");
            x.setLine(1);
            x.setLine(1);
            Cases.type(x, "a");
            return x;
        }, x -> x.setLine(1));
    }

    /** Promise 11 with no lines, or no errors. */
    private static void correctingNothing() {
        for (int forme = 0; forme <= 2; forme++) {
            Check.due("new: correct(" + forme + ")", new SortsCase().correct(forme), 0);
        }
        SortsCase x = Cases.with("aabb", "ab");
        x.setLine(0);
        Check.due("correct(0) without errors", x.correct(0), 0);
        Cases.dueText("box a is as it was", Cases.box(x, 'a'), "a");
        Check.due("no minutes", x.value(7), 2);
    }

    /** "If the box of the wanted letter has a sort of this letter": another box, the heap or a forme is no help. */
    private static void correctingWithoutSorts() {
        SortsCase x = Cases.with("aab", "b");
        x.setLine(0);
        x.pie(0);
        x.setLine(0);
        Cases.dueText("a borrowed a", Cases.line(x, 0, 0), "A");
        Check.due("the b lies in the heap", x.correct(0), 0);
        x.sortHeap(1);
        x.spill(1, 0, 1);
        Check.due("the b lies in the box of a", x.correct(0), 0);
        x.buy(2, 1);
        x.spill(2, 1, 1);
        Check.due("in the box of b lies a c", x.correct(0), 0);
        Cases.dueText("the place stays", Cases.line(x, 0, 0), "A");
        Check.due("forme(0, 4)", x.forme(0, 4), 0);
        x.clean(0);
        Cases.dueText("box b", Cases.box(x, 'b'), "cb");
        int minutes = x.value(7);
        Check.due("then it is corrected", x.correct(0), 1);
        Cases.dueText("the c stays in the box of b", Cases.box(x, 'b'), "c");
        Check.due("three minutes", x.value(7) - minutes, 3);
    }

    /** "the topmost such one is taken out of it": foul ones above and below it stay in their order. */
    private static void correctingUnderFoulOnes() {
        SortsCase x = Cases.with("bcde", "a");
        x.setLine(0);
        Cases.dueText("a borrowed b", Cases.line(x, 0, 0), "B");
        x.buy(0, 1);
        x.spill(2, 0, 1);
        x.buy(0, 2);
        x.spill(3, 0, 1);
        x.spill(4, 0, 1);
        Cases.dueText("box a", Cases.box(x, 'a'), "acaade");
        Check.due("correct(0)", x.correct(0), 1);
        Cases.dueText("the topmost a is gone", Cases.box(x, 'a'), "acade");
        Cases.dueText("the b is in its box, upright or not", Cases.box(x, 'b'), "b");
        Check.due("the place is upright", x.place(0, 0, 0, 2), 0);
        Check.due("and right", x.place(0, 0, 0, 3), 0);
        Check.due("it is none to be corrected any more", x.correct(0), 0);
    }

    /** "Otherwise the place stays as it is (also if its sort is the wanted letter, turned)." */
    private static void correctingTheWantedLetterTurned() {
        Twins.Maker turned = () -> {
            SortsCase x = Cases.with("aabb", "aa");
            x.spill(0, 1, 2);
            x.setLine(0);
            return x;
        };
        SortsCase x = turned.make();
        Cases.dueText("two turned a's for two a's", Cases.line(x, 0, 0), "AA");
        Check.due("both are errors", x.forme(0, 2), 2);
        Check.due("without another a", x.correct(0), 0);
        Check.due("both stay errors", x.forme(0, 2), 2);
        Check.due("both stay turned", x.forme(0, 3), 2);
        x.buy(0, 1);
        Check.due("forme(0, 4) with one a", x.forme(0, 4), 2);
        Check.due("with one a, which comes back each time", x.correct(0), 2);
        Cases.dueText("one a is left", Cases.box(x, 'a'), "a");
        Check.due("none is turned", x.forme(0, 3), 0);
        Twins.savesUnchanged("correct(0) of turned ones", turned, y -> y.correct(0));
    }

    /** "line by line, from the first place on", "Later places see what has come back into the boxes". */
    private static void correctingWithWhatCameBack() {
        SortsCase x = new SortsCase();
        Cases.buyFor(x, "abc");
        x.spill(1, 0, 1);
        x.spill(2, 1, 1);
        Cases.setText(x, 1, "a");
        Cases.setText(x, 1, "b");
        Cases.setText(x, 1, "c");
        Cases.dueText("line 0", Cases.line(x, 1, 0), "b");
        Cases.dueText("line 1", Cases.line(x, 1, 1), "c");
        Cases.dueText("line 2", Cases.line(x, 1, 2), "A");
        Check.due("no sort is free", x.correct(1), 0);
        x.buy(0, 1);
        Check.due("forme(1, 4)", x.forme(1, 4), 3);
        Check.due("each place frees a sort for the next one", x.correct(1), 3);
        Check.due("no errors", x.forme(1, 2), 0);
        Cases.dueText("the a of line 2 is left", Cases.box(x, 'a'), "a");
        SortsCase y = new SortsCase();
        Cases.buyFor(y, "abc");
        y.spill(0, 2, 1);
        y.spill(1, 0, 1);
        Cases.setText(y, 0, "a");
        Cases.setText(y, 0, "c");
        Cases.dueText("line 0", Cases.line(y, 0, 0), "b");
        Cases.dueText("line 1", Cases.line(y, 0, 1), "a");
        Check.due("what comes back later is no help", y.correct(0), 1);
        Check.due("line 0 stays an error", y.proof(0, 0), 0);
        Check.due("line 1 is right", y.proof(0, 1), NONE);
    }

    private static void correctingOneForme() {
        SortsCase x = Cases.with("bbb", "a");
        for (int forme = 0; forme <= 2; forme++) {
            x.setLine(forme);
        }
        x.buy(0, 3);
        Check.due("correct(2)", x.correct(2), 1);
        Check.due("errors of the others", x.value(10), 2);
        Check.due("correct(0)", x.correct(0), 1);
        Check.due("errors of forme 1", x.forme(1, 2), 1);
        Check.due("minutes", x.value(7), 3 + 6);
    }

    /** Promise 12: a forme without lines has no sorts. */
    private static void distributingNothing() {
        SortsCase x = new SortsCase();
        x.set(2, 3);
        for (int forme = 0; forme <= 2; forme++) {
            Check.due("new: distribute(" + forme + ")", x.distribute(forme), 0);
        }
        Check.due("none is distributed", x.value(8), 0);
        Check.due("no minutes", x.value(7), 0);
    }

    /** "with a slip of s (0: never ...)". */
    private static void distributingWithoutSlip() {
        SortsCase x = new SortsCase();
        x.buy(0, 30);
        x.buy(0, 30);
        Cases.type(x, "aaaaaaaaaaaa");
        for (int line = 0; line < 5; line++) {
            x.setLine(0);
        }
        Check.due("distribute(0)", x.distribute(0), 60);
        Check.due("none is foul", x.value(9), 0);
        Check.due("distributed", x.value(8), 60);
        Check.due("minutes", x.value(7), 120);
        Check.due("no lines", x.forme(0, 0), 0);
        Check.due("no sorts", x.forme(0, 1), 0);
    }

    /** "(... or 2 to 50), each sort whose number is divisible by s goes onto the box of the next letter". */
    private static void distributingAtTheLeastAndMostSlip() {
        int[] slips = {2, 3, 49, 50};
        int[] due = {30, 20, 1, 1};
        for (int index = 0; index < slips.length; index++) {
            SortsCase x = new SortsCase();
            x.buy(3, 30);
            x.buy(3, 30);
            x.set(slips[index], 3);
            Cases.type(x, "dddddddddddd");
            for (int line = 0; line < 4; line++) {
                x.setLine(0);
            }
            x.setLine(1);
            x.distribute(0);
            Check.due("slips of " + slips[index] + " in 48", x.letter(4, 0), 48 / slips[index]);
            x.distribute(1);
            Check.due("slips of " + slips[index] + " in 60", x.letter(4, 0), due[index]);
            Check.due("they are foul", x.letter(4, 1), due[index]);
            Check.due("the others are not", x.letter(3, 0), 60 - due[index]);
        }
    }

    /** "goes onto the box of the next letter (after the space that of "a")". */
    private static void distributingRoundTheLastLetter() {
        for (int letter = 0; letter <= 26; letter++) {
            SortsCase x = new SortsCase();
            x.buy(letter, 2);
            x.set(2, 3);
            String sign = String.valueOf(Cases.sign(letter));
            Cases.setText(x, 0, sign + sign);
            x.distribute(0);
            int next = letter == 26 ? 0 : letter + 1;
            Check.due("the second of letter " + letter, x.letter(next, 6), letter);
            Check.due("the first of letter " + letter, x.letter(letter, 6), letter);
            Check.due("foul ones of letter " + letter, x.value(9), 1);
        }
    }

    /** "numbered from 1 on through all distributions, whatever the slip was". */
    private static void distributingGoesOnCounting() {
        SortsCase x = new SortsCase();
        x.buy(0, 9);
        Cases.setText(x, 0, "aa");
        Cases.setText(x, 1, "a");
        Cases.setText(x, 2, "aa");
        x.distribute(0);
        x.set(4, 3);
        x.distribute(1);
        Check.due("numbers 1 to 3 do not slip", x.value(9), 0);
        x.distribute(2);
        Check.due("number 4 slips", x.value(9), 1);
        Cases.dueText("it is the first of two", Cases.box(x, 'b'), "a");
        x.undo();
        Check.due("undone, the number is 4 again", x.value(8), 3);
        x.distribute(2);
        Check.due("number 4 slips again", x.value(9), 1);
        Cases.setText(x, 0, "aa");
        x.pie(0);
        x.sortHeap(2);
        Check.due("what is pied and sorted has no number", x.value(8), 5);
        Cases.setText(x, 0, "aaa");
        x.distribute(0);
        Check.due("number 8 slips", x.value(9), 2);
        Check.due("eight are distributed", x.value(8), 8);
    }

    /** "go onto the tops of the boxes of their letters": not of the wanted ones, turned or not. */
    private static void distributingByTheSortsLetter() {
        SortsCase x = Cases.with("mb", "ac");
        x.spill(12, 0, 1);
        x.setLine(0);
        Cases.dueText("line", Cases.line(x, 0, 0), "mB");
        x.buy(0, 1);
        x.buy(12, 1);
        x.spill(0, 12, 1);
        x.distribute(0);
        Cases.dueText("the m lies on top of its box", Cases.box(x, 'm'), "mam");
        Cases.dueText("the turned b lies in its box", Cases.box(x, 'b'), "b");
        Check.due("box a", x.letter(0, 0), 0);
        Check.due("box c", x.letter(2, 0), 0);
    }

    /** Promise 13: a forme without lines leaves the heap as it is. */
    private static void pieingNothing() {
        for (int forme = 0; forme <= 2; forme++) {
            Check.due("new: pie(" + forme + ")", new SortsCase().pie(forme), 0);
        }
        SortsCase x = Cases.with("a", "a");
        x.setLine(2);
        Check.due("pie(2)", x.pie(2), 1);
        Check.due("pie(2) again", x.pie(2), 1);
        Check.due("pie(0)", x.pie(0), 1);
    }

    /** "its sorts, in the same order, go to the end of the heap; the forme has no lines then". */
    private static void pieingBehindTheHeap() {
        SortsCase x = Cases.with("abcd ", "dc");
        x.set(2, 3);
        x.setLine(0);
        Cases.setText(x, 0, "b");
        Cases.setText(x, 1, " a");
        Check.due("pie(0)", x.pie(0), 3);
        Check.due("pie(1)", x.pie(1), 5);
        Cases.dueText("heap", Cases.heap(x), "dcb a");
        Check.due("lines", x.forme(0, 0) + x.forme(1, 0), 0);
        Check.due("none is distributed", x.value(8), 0);
        Check.due("setting alone is work", x.value(7), 5);
        SortsCase y = new SortsCase();
        for (int count = 0; count < 8; count++) {
            y.buy(0, 30);
        }
        Cases.type(y, "aaaaaaaaaaaaaaaa");
        for (int line = 0; line < 15; line++) {
            y.setLine(line / 5);
        }
        Check.due("80 in the heap", y.pie(2), 80);
        Check.due("160 in the heap", y.pie(0), 160);
        Check.due("240 in the heap", y.pie(1), 240);
        Check.due("the last one of the heap", y.inHeap(239), 0);
    }

    /** Promise 14: "many: 1 to 99"; "many, or all if there are fewer". */
    private static void sortingLeastAndMost() {
        Check.due("new: sortHeap(1)", new SortsCase().sortHeap(1), 0);
        Check.due("new: sortHeap(99)", new SortsCase().sortHeap(99), 0);
        Check.due("sortHeap(1) of 100", heapOf(100).sortHeap(1), 1);
        Check.due("sortHeap(98) of 99", heapOf(99).sortHeap(98), 98);
        Check.due("sortHeap(99) of 99", heapOf(99).sortHeap(99), 99);
        Check.due("sortHeap(99) of 98", heapOf(98).sortHeap(99), 98);
        Check.due("sortHeap(99) of 100", heapOf(100).sortHeap(99), 99);
        SortsCase x = heapOf(100);
        int minutes = x.value(7);
        x.sortHeap(99);
        Check.due("one is left", x.value(2), 1);
        Check.due("99 are in the boxes", x.value(0), 99);
        Check.due("99 minutes", x.value(7) - minutes, 99);
        x.set(2, 3);
        x.sortHeap(99);
        Check.due("one minute more", x.value(7) - minutes, 100);
        Check.due("none slips", x.value(9), 0);
        Check.due("none is distributed", x.value(8), 0);
        for (int many : new int[] {-1, 0, 100}) {
            Twins.badArgument("sortHeap(" + many + ") of 100", () -> heapOf(100), y -> y.sortHeap(many));
        }
    }

    /** A heap of at most 120 sorts, and nothing else. */
    private static SortsCase heapOf(int sorts) {
        SortsCase x = new SortsCase();
        Cases.type(x, "ab");
        for (int pair = 0; pair < sorts / 2; pair++) {
            x.buyLacking();
            x.setLine(pair % 3);
            x.pie(pair % 3);
        }
        if (sorts % 2 == 1) {
            x.buy(0, 1);
            Cases.setText(x, 0, "a");
            x.pie(0);
        }
        Check.due("heap", x.value(2), sorts);
        Check.due("all sorts", x.value(3), sorts);
        return x;
    }

    /** Promise 15 with as little, and as much, as a forme can have. */
    private static void formesFullAndEmpty() {
        SortsCase x = new SortsCase();
        for (char sign : "knop".toCharArray()) {
            x.buy(Cases.number(sign), 30);
        }
        Cases.type(x, "bbbbbbbbbbbbbbbb");
        for (int line = 0; line < 5; line++) {
            x.setLine(2);
        }
        x.buy(1, 30);
        int[] due = {5, 80, 80, 80, 30};
        for (int what = 0; what <= 4; what++) {
            Check.due("full: forme(2, " + what + ")", x.forme(2, what), due[what]);
            Check.due("empty: forme(0, " + what + ")", x.forme(0, what), 0);
        }
        Check.due("correct(2)", x.correct(2), 30);
        int[] dueThen = {5, 80, 50, 50, 0};
        for (int what = 0; what <= 4; what++) {
            Check.due("corrected: forme(2, " + what + ")", x.forme(2, what), dueThen[what]);
        }
        Check.due("the first error left", x.proof(2, 0), 114);
        for (int what : new int[] {-1, 5}) {
            Twins.badArgument("forme(2, " + what + ")", Cases::rich, y -> y.forme(2, what));
            Twins.noIndex("forme(3, " + what + ")", Cases::rich, y -> y.forme(3, what));
            Twins.noIndex("forme(-1, " + what + ")", Cases::rich, y -> y.forme(-1, what));
        }
    }

    /** Promise 15: "4 the places with errors that correct() would correct now, one after the other". */
    private static void correctableOneAfterTheOther() {
        SortsCase x = Cases.with("bb", "aa");
        x.setLine(0);
        Check.due("no a", x.forme(0, 4), 0);
        x.buy(0, 1);
        Check.due("one a for two places", x.forme(0, 4), 1);
        x.buy(0, 1);
        Check.due("two for two", x.forme(0, 4), 2);
        x.buy(0, 1);
        Check.due("three for two", x.forme(0, 4), 2);
        Twins.asks("forme(0, 4)", Cases::rich, y -> y.forme(0, 4));
        Check.due("rich: forme(0, 4)", Cases.rich().forme(0, 4), Cases.rich().correct(0));
        Check.that("rich: some can be corrected, some not",
                Cases.rich().forme(0, 4) > 0 && Cases.rich().forme(0, 4) < Cases.rich().forme(0, 2));
    }

    /** Promise 16: "no such forme or line". */
    private static void placesOfTheLastLine() {
        SortsCase x = Cases.fullForme();
        Check.due("places(0, 0)", x.places(0, 0), 1);
        Check.due("places(0, 4)", x.places(0, 4), 1);
        for (int line : new int[] {-1, 5, Integer.MIN_VALUE, Integer.MAX_VALUE}) {
            Twins.noIndex("places(0, " + line + ")", Cases::fullForme, y -> y.places(0, line));
        }
        Twins.noIndex("places(1, 0) without lines", Cases::fullForme, y -> y.places(1, 0));
        Twins.noIndex("places(3, 0)", Cases::fullForme, y -> y.places(3, 0));
        Twins.noIndex("places(-1, 0)", Cases::fullForme, y -> y.places(-1, 0));
        x.undo();
        Check.noIndex("places of a line that is undone", x, () -> x.places(0, 4));
        Check.due("places(0, 3)", x.places(0, 3), 1);
    }

    /** Promise 17: "no such forme, line or place"; "place: from 0". */
    private static void firstAndLastPlace() {
        Twins.Maker maker = () -> {
            SortsCase x = new SortsCase();
            x.buy(25, 30);
            Cases.setText(x, 1, "zzzzzzzzzzzzzzza");
            Cases.setText(x, 1, "az");
            return x;
        };
        SortsCase x = maker.make();
        int[] first = {25, 25, 0, 0};
        int[] last = {0, 25, 1, 1};
        for (int what = 0; what <= 3; what++) {
            Check.due("place(1, 0, 0, " + what + ")", x.place(1, 0, 0, what), first[what]);
            Check.due("place(1, 0, 15, " + what + ")", x.place(1, 0, 15, what), last[what]);
            Check.due("place(1, 1, 0, " + what + ")", x.place(1, 1, 0, what), last[what]);
            Check.due("place(1, 1, 1, " + what + ")", x.place(1, 1, 1, what), first[what]);
            int asked = what;
            Twins.noIndex("place(1, 0, 16, " + what + ")", maker, y -> y.place(1, 0, 16, asked));
            Twins.noIndex("place(1, 0, -1, " + what + ")", maker, y -> y.place(1, 0, -1, asked));
            Twins.noIndex("place(1, 1, 2, " + what + ")", maker, y -> y.place(1, 1, 2, asked));
            Twins.noIndex("place(1, 1, -1, " + what + ")", maker, y -> y.place(1, 1, -1, asked));
            Twins.noIndex("place(1, 2, 0, " + what + ")", maker, y -> y.place(1, 2, 0, asked));
            Twins.noIndex("place(1, -1, 0, " + what + ")", maker, y -> y.place(1, -1, 0, asked));
            Twins.noIndex("place(0, 0, 0, " + what + ")", maker, y -> y.place(0, 0, 0, asked));
            Twins.noIndex("place(3, 0, 0, " + what + ")", maker, y -> y.place(3, 0, 0, asked));
            Twins.noIndex("place(-1, 0, 0, " + what + ")", maker, y -> y.place(-1, 0, 0, asked));
        }
        Twins.badArgument("place(1, 0, 15, 4)", maker, y -> y.place(1, 0, 15, 4));
        Twins.badArgument("place(1, 0, 15, -1)", maker, y -> y.place(1, 0, 15, -1));
        Twins.noIndex("place(1, 0, 16, 4)", maker, y -> y.place(1, 0, 16, 4));
        Twins.noIndex("place(1, 2, 0, -1)", maker, y -> y.place(1, 2, 0, -1));
        Twins.noIndex("place(3, 0, 0, 4)", maker, y -> y.place(3, 0, 0, 4));
        uprightButWrong();
    }

    /** Terms: "A place has an error if its sort is turned, or its letter is not the wanted one." */
    private static void uprightButWrong() {
        SortsCase x = Cases.with("abcc", "ab");
        x.spill(1, 0, 1);
        x.spill(0, 1, 2);
        x.setLine(0);
        // Box b had "ba" with the a on top: the a is lent, turned, for the a; the b comes upright for the b.
        int[] turnedAlone = {0, 0, 1, 1};
        int[] right = {1, 1, 0, 0};
        Cases.type(x, "c");
        x.buy(3, 1);
        x.spill(3, 2, 1);
        x.setLine(0);
        int[] wrongAlone = {2, 3, 0, 1};
        for (int what = 0; what <= 3; what++) {
            Check.due("turned alone, " + what, x.place(0, 0, 0, what), turnedAlone[what]);
            Check.due("right, " + what, x.place(0, 0, 1, what), right[what]);
            Check.due("of another letter alone, " + what, x.place(0, 1, 0, what), wrongAlone[what]);
        }
    }

    /** Promise 18: "NONE if there are not so many"; "index is negative". */
    private static void proofsAtTheirEnd() {
        SortsCase x = new SortsCase();
        for (int count = 0; count < 3; count++) {
            x.buy(0, 30);
        }
        Cases.type(x, "baaaaaaaaaaaaaab");
        for (int line = 0; line < 5; line++) {
            x.setLine(1);
        }
        int[] due = {0, 15, 100, 115, 200, 215, 300, 315, 400, 415, NONE, NONE};
        for (int index = 0; index < due.length; index++) {
            Check.due("proof(1, " + index + ")", x.proof(1, index), due[index]);
        }
        Check.due("proof of a forme without lines", x.proof(0, 0), NONE);
        Check.due("far behind", x.proof(1, Integer.MAX_VALUE), NONE);
        Twins.noIndex("proof(0, -1)", Cases::rich, y -> y.proof(0, -1));
        Twins.noIndex("proof(3, 0)", Cases::rich, y -> y.proof(3, 0));
        Twins.noIndex("proof(-1, 0)", Cases::rich, y -> y.proof(-1, 0));
        x.distribute(1);
        Check.due("behind the distribution", x.proof(1, 0), NONE);
    }

    /** Promise 19: "0 for the sort that is sorted first"; "the heap has not so many sorts". */
    private static void heapAtItsEnd() {
        SortsCase x = Cases.with("abc", "cab");
        x.setLine(1);
        x.pie(1);
        Check.due("inHeap(0)", x.inHeap(0), 2);
        Check.due("inHeap(2)", x.inHeap(2), 1);
        Check.noIndex("inHeap(3)", x, () -> x.inHeap(3));
        Check.noIndex("inHeap(-1)", x, () -> x.inHeap(-1));
        x.sortHeap(1);
        Check.due("inHeap(0) then", x.inHeap(0), 0);
        Check.noIndex("inHeap(2) then", x, () -> x.inHeap(2));
        x.sortHeap(2);
        Check.noIndex("inHeap(0) of an emptied heap", x, () -> x.inHeap(0));
        x.undo();
        Check.due("inHeap(1) behind undo", x.inHeap(1), 1);
    }
}
