/** Promises 20 to 24 at their edges: each check stands for a sentence of the document that names one. */
final class WhatIfEdgeTests {
    private static final int NONE = SortsCase.NONE;

    private WhatIfEdgeTests() {
    }

    static void run() {
        nothingToSet();
        fromNoneToAllWrong();
        withAllFormesFull();
        justEnoughSorts();
        copiesUntilItCannotBeSet();
        copiesUntilThereIsAnError();
        bestWithoutLines();
        bestOfEqualOnes();
        bestCountsErrorsNotTurnedOnes();
        bestOnlyOneCanBeSet();
        bestSlipsWithTheNextNumbers();
        orderOfBoxesAlone();
        questionsChangeNothing();
    }

    private static void due(String what, SortsCase x, int errors, int turned, int copies, int best) {
        Check.due(what + ": errorsIfSet()", x.errorsIfSet(), errors);
        Check.due(what + ": turnedIfSet()", x.turnedIfSet(), turned);
        Check.due(what + ": copies()", x.copies(), copies);
        Check.due(what + ": bestToDistribute()", x.bestToDistribute(), best);
    }

    /** "NONE if it cannot be set, or the text is empty"; copies: "NONE if the text is empty", otherwise a number. */
    private static void nothingToSet() {
        due("new, no text", new SortsCase(), NONE, NONE, NONE, NONE);
        due("sorts, no text", Cases.with("abc ", ""), NONE, NONE, NONE, NONE);
        due("new, a text", Cases.with("", "a"), NONE, NONE, 0, NONE);
        due("new, a space", Cases.with("", " "), NONE, NONE, 0, NONE);
        due("no space", Cases.with("abc", "ab c"), NONE, NONE, 0, NONE);
        due("one sort too few", Cases.with("abc", "abcd"), NONE, NONE, 0, NONE);
        due("the width is not there", Cases.with("abc", "abi"), NONE, NONE, 0, NONE);
        SortsCase x = Cases.with("a", "a");
        x.clearText();
        due("the text is cleared", x, NONE, NONE, NONE, NONE);
        x.append('a');
        due("a text again", x, 0, 0, 1, 0);
    }

    private static void fromNoneToAllWrong() {
        due("one right", Cases.with("a", "a"), 0, 0, 1, 0);
        due("one turned", Cases.with("b", "a"), 1, 1, 0, 0);
        SortsCase foul = Cases.with("b", "a");
        foul.spill(1, 0, 1);
        due("one foul", foul, 1, 0, 0, 0);
        SortsCase turned = Cases.with("a", "a");
        turned.spill(0, 1, 1);
        due("one right, but turned", turned, 1, 1, 0, 0);
        due("16 right", Cases.with("aaaaaaaaaaaaaaaa", "aaaaaaaaaaaaaaaa"), 0, 0, 1, 0);
        due("16 turned", Cases.with("bbbbbbbbbbbbbbbb", "aaaaaaaaaaaaaaaa"), 16, 16, 0, 0);
        SortsCase mixed = Cases.with("aabbcc", "abcd");
        mixed.spill(1, 0, 1);
        // The a gets the foul b, b and c are right, the d borrows an a.
        due("a foul one and a turned one", mixed, 2, 1, 0, 0);
    }

    /** Promise 20: "(whether a forme has room for a line or not)". */
    private static void withAllFormesFull() {
        SortsCase x = Cases.with("aaaaaaaaaaaaaaaaaa", "a");
        for (int line = 0; line < 15; line++) {
            x.setLine(line % 3);
        }
        for (int forme = 0; forme <= 2; forme++) {
            int asked = forme;
            Check.badState("setLine(" + forme + ") of a full forme", x, () -> x.setLine(asked));
        }
        due("full formes", x, 0, 0, 3, 0);
        Cases.type(x, "bb");
        due("full formes, errors", x, 2, 2, 0, 0);
        Cases.type(x, "aaaa");
        due("full formes, a text that cannot be set without distributing", x, NONE, NONE, 0, 0);
    }

    private static void justEnoughSorts() {
        due("all are lent", Cases.with("bcd", "aaa"), 3, 3, 0, 0);
        due("all but one are lent", Cases.with("bcda", "aaaa"), 3, 3, 0, 0);
        SortsCase x = Cases.with("m", "w");
        due("a wide one", x, 1, 1, 0, 0);
        x.setLine(0);
        Check.due("none is left", x.errorsIfSet(), NONE);
        Check.due("none is left to turn", x.turnedIfSet(), NONE);
        Check.due("distributed, the m is lent again", x.bestToDistribute(), 0);
    }

    /** Promise 22: "counted until it cannot be set". */
    private static void copiesUntilItCannotBeSet() {
        Check.due("two of two", Cases.with("aa", "a").copies(), 2);
        Check.due("one of two", Cases.with("aa", "aa").copies(), 1);
        Check.due("one of three", Cases.with("aaa", "aa").copies(), 1);
        Check.due("none of one", Cases.with("a", "aa").copies(), 0);
        Check.due("the spaces end first", Cases.with("aaaa  ", "a ").copies(), 2);
        Check.due("the thin ones end first", Cases.with("aaaai", "ai").copies(), 1);
        SortsCase x = new SortsCase();
        for (int count = 0; count < 8; count++) {
            x.buy(0, 30);
        }
        x.buy(0, 10);
        Cases.type(x, "a");
        Check.due("as many as there can be sorts", x.copies(), 250);
        Cases.type(x, "aaaaaaaaaaaaaaaa");
        Check.due("16 each time", x.copies(), 15);
        for (int line = 0; line < 15; line++) {
            x.setLine(line % 3);
        }
        Check.due("none is left for another one", x.copies(), 0);
        Cases.type(x, "aaaaa");
        Check.due("formes do not matter", x.copies(), 2);
    }

    /** Promise 22: "or would have an error". */
    private static void copiesUntilThereIsAnError() {
        Check.due("the third is borrowed", Cases.with("aabbbb", "a").copies(), 2);
        Check.due("the second half is borrowed", Cases.with("aaabbbb", "aa").copies(), 1);
        SortsCase foul = Cases.with("aab", "a");
        foul.spill(1, 0, 1);
        Check.due("a foul one on top", foul.copies(), 0);
        foul.buy(0, 3);
        Check.due("three above the foul one", foul.copies(), 3);
        Cases.type(foul, "aa");
        Check.due("one in a line, one not", foul.copies(), 1);
        SortsCase turned = Cases.with("aa", "b");
        turned.spill(0, 1, 2);
        Check.due("the box of b has a's", turned.copies(), 0);
        Cases.type(turned, "a");
        Check.due("a turned a is an error", turned.copies(), 0);
    }

    /** Promise 23: "a forme without lines is tried, too". */
    private static void bestWithoutLines() {
        due("all formes are without lines", Cases.with("a", "a"), 0, 0, 1, 0);
        SortsCase x = Cases.with("aab", "aab");
        x.set(2, 3);
        Cases.setText(x, 0, "aa");
        Cases.type(x, "b");
        // With forme 0 an a would lie on the b; formes 1 and 2 leave the b as it is.
        Check.due("one without lines is better", x.bestToDistribute(), 1);
        Cases.setText(x, 1, "b");
        Cases.type(x, "ab");
        Check.due("forme 0 gives an a and a foul one", x.bestToDistribute(), 0);
    }

    /** Promise 23: "Returns the forme, of several the lowest one". */
    private static void bestOfEqualOnes() {
        for (int lowest = 0; lowest <= 2; lowest++) {
            SortsCase x = Cases.with("aaa", "a");
            for (int forme = lowest; forme <= 2; forme++) {
                x.setLine(forme);
            }
            while (x.letter(0, 0) > 0) {
                x.spill(0, 26, 1);
            }
            Check.due("the lowest from " + lowest + " on", x.bestToDistribute(), lowest);
        }
        SortsCase y = Cases.with("aaab", "a");
        y.setLine(1);
        y.setLine(2);
        Cases.type(y, "aa");
        Check.due("forme 0 has no a, 1 and 2 have one", y.bestToDistribute(), 1);
        Cases.type(y, "abb");
        Check.due("forme 0 is not enough, 1 and 2 give one error", y.bestToDistribute(), 1);
    }

    /** Promise 23: "with the fewest errors": foul ones count like turned ones. */
    private static void bestCountsErrorsNotTurnedOnes() {
        SortsCase x = Cases.with("mm a", "m ma");
        x.setLine(0);
        Cases.buyFor(x, "ac");
        Cases.setText(x, 1, "ac");
        x.set(2, 3);
        Cases.type(x, "ab");
        // Forme 0 slips a space into the box of a and an a into that of b: two foul ones, none turned.
        // Forme 1 gives an a, and its c, which slips into the box of d, is lent, turned, for the b.
        Check.due("one turned one is better than two foul ones", x.bestToDistribute(), 1);
        Cases.type(x, "b");
        Check.due("a foul one is no better than a turned one", x.bestToDistribute(), 0);
        x.distribute(0);
        Check.due("forme 0: foul ones", x.value(9), 2);
        x.undo();
        x.distribute(1);
        Cases.type(x, "ab");
        Check.due("forme 1: errors", x.errorsIfSet(), 1);
        Check.due("forme 1: turned ones", x.turnedIfSet(), 1);
    }

    /** Promise 23: "NONE if the text could not be set behind the distribution of any of them". */
    private static void bestOnlyOneCanBeSet() {
        for (int only = 0; only <= 2; only++) {
            SortsCase x = Cases.with("iaa", "a");
            x.setLine((only + 1) % 3);
            x.setLine((only + 2) % 3);
            Cases.setText(x, only, "i");
            for (String text : new String[] {"i", "l"}) {
                Cases.type(x, text);
                Check.due("forme " + only + " alone for " + text, x.bestToDistribute(), only);
            }
            Cases.type(x, "ii");
            Check.due("none for ii", x.bestToDistribute(), NONE);
            Cases.type(x, "ai");
            Check.due("none for ai", x.bestToDistribute(), NONE);
            Cases.type(x, " ");
            Check.due("none for a space", x.bestToDistribute(), NONE);
        }
    }

    /** Promise 23: "(with slips ...)": each forme is tried with the numbers that come next. */
    private static void bestSlipsWithTheNextNumbers() {
        int[] due = {1, 1, 2, 1};
        for (int already = 0; already < due.length; already++) {
            SortsCase x = Cases.with("aaaaaaaaaab", "a");
            for (int count = 0; count < already; count++) {
                x.setLine(2);
            }
            x.distribute(2);
            Cases.setText(x, 0, "aaa");
            Cases.setText(x, 1, "a");
            x.spill(0, 25, x.letter(0, 0));
            x.set(3, 3);
            Cases.type(x, "b");
            // One of the three of forme 0 slips onto the b; the one of forme 1 only if its number is 3.
            Check.due("behind " + already, x.bestToDistribute(), due[already]);
        }
        SortsCase y = Cases.with("zz ", " ");
        y.setLine(1);
        y.set(2, 3);
        Cases.setText(y, 0, "zz");
        Cases.type(y, " ");
        // Forme 0 would put a z into the empty box of the space, forme 1 the space itself.
        Check.due("the space of forme 1", y.bestToDistribute(), 1);
        Cases.type(y, "z ");
        Check.due("the slip alone makes it possible", y.bestToDistribute(), 0);
    }

    /** Promise 24: "1.0 without any": sorts in formes and heap do not count, wherever they are from. */
    private static void orderOfBoxesAlone() {
        SortsCase x = Cases.with("ab", "ab");
        x.spill(0, 1, 1);
        Check.dueDouble("one of two", x.order(), 0.5);
        x.setLine(0);
        Check.dueDouble("none in the boxes", x.order(), 1.0);
        x.pie(0);
        Check.dueDouble("all in the heap", x.order(), 1.0);
        x.sortHeap(1);
        Check.dueDouble("one right", x.order(), 1.0);
        x.spill(0, 26, 1);
        Check.dueDouble("one foul", x.order(), 0.0);
        SortsCase y = new SortsCase();
        for (int letter = 0; letter < 8; letter++) {
            y.buy(letter, 30);
        }
        y.buy(8, 10);
        Check.dueDouble("250 right", y.order(), 1.0);
        y.spill(0, 8, 1);
        Check.dueDouble("249 right", y.order(), 249.0 / 250.0);
        y.spill(1, 0, 30);
        Check.dueDouble("219 right", y.order(), 219.0 / 250.0);
        SortsCase z = Cases.with("aaa", "");
        z.spill(0, 1, 2);
        Check.dueDouble("a third", z.order(), 1.0 / 3.0);
    }

    private static void questionsChangeNothing() {
        Twins.Maker[] makers = {SortsCase::new, Cases::rich, Cases::full, Cases::fullForme};
        for (int index = 0; index < makers.length; index++) {
            Twins.asks("errorsIfSet() of case " + index, makers[index], SortsCase::errorsIfSet);
            Twins.asks("turnedIfSet() of case " + index, makers[index], SortsCase::turnedIfSet);
            Twins.asks("copies() of case " + index, makers[index], SortsCase::copies);
            Twins.asks("bestToDistribute() of case " + index, makers[index], SortsCase::bestToDistribute);
            Twins.asks("order() of case " + index, makers[index], SortsCase::order);
        }
    }
}
