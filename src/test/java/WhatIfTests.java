/** Promises 20 to 24: what-if questions, and the order of the boxes. */
final class WhatIfTests {
    private WhatIfTests() {
    }

    static void run() {
        withoutText();
        errorsAndTurned();
        notToBeSet();
        whetherThereIsRoom();
        copies();
        manyCopies();
        best();
        bestWithSlips();
        bestOfSeveral();
        order();
    }

    private static void withoutText() {
        SortsCase x = new SortsCase();
        x.buy(0, 3);
        Check.due("errorsIfSet() without text", x.errorsIfSet(), SortsCase.NONE);
        Check.due("turnedIfSet() without text", x.turnedIfSet(), SortsCase.NONE);
        Check.due("copies() without text", x.copies(), SortsCase.NONE);
        Check.due("bestToDistribute() without text", x.bestToDistribute(), SortsCase.NONE);
    }

    private static void errorsAndTurned() {
        SortsCase x = new SortsCase();
        Cases.buyFor(x, "aabb");
        x.spill(0, 1, 1);
        Cases.type(x, "abcd");
        // a from a, the a from b, then a b from b for the c and the last b for the d.
        Check.due("errorsIfSet()", x.errorsIfSet(), 3);
        Check.due("turnedIfSet()", x.turnedIfSet(), 2);
        long before = x.digest();
        x.errorsIfSet();
        x.turnedIfSet();
        x.copies();
        x.bestToDistribute();
        x.order();
        Check.due("the questions change nothing", x.digest(), before);
        x.setLine(0);
        Check.due("the same errors in the forme", x.forme(0, 2), 3);
        Check.due("the same turned ones", x.forme(0, 3), 2);
    }

    private static void notToBeSet() {
        SortsCase x = new SortsCase();
        x.buy(0, 2);
        for (String text : new String[] {"aaa", " ", "i", "m", "aa "}) {
            Cases.type(x, text);
            Check.due("errorsIfSet() of '" + text + "'", x.errorsIfSet(), SortsCase.NONE);
            Check.due("turnedIfSet() of '" + text + "'", x.turnedIfSet(), SortsCase.NONE);
            Check.due("copies() of '" + text + "'", x.copies(), 0);
            Check.due("bestToDistribute() of '" + text + "'", x.bestToDistribute(), SortsCase.NONE);
        }
        Cases.type(x, "ab");
        Check.due("errorsIfSet() of 'ab'", x.errorsIfSet(), 1);
    }

    private static void whetherThereIsRoom() {
        SortsCase x = new SortsCase();
        x.buy(0, 20);
        Cases.type(x, "a");
        for (int count = 0; count < 15; count++) {
            x.setLine(count % 3);
        }
        Check.due("errorsIfSet() with full formes", x.errorsIfSet(), 0);
        Check.due("turnedIfSet() with full formes", x.turnedIfSet(), 0);
        Check.due("copies() with full formes", x.copies(), 5);
        Check.due("bestToDistribute() with full formes", x.bestToDistribute(), 0);
    }

    private static void copies() {
        SortsCase x = new SortsCase();
        Cases.buyFor(x, "aaaaab");
        Cases.type(x, "aa");
        Check.due("two copies, the third would have an error", x.copies(), 2);
        Cases.type(x, "ab");
        Check.due("one copy", x.copies(), 1);
        Cases.type(x, "abb");
        Check.due("no copy without an error", x.copies(), 0);
        x.buy(1, 1);
        x.spill(1, 2, 1);
        Cases.type(x, "c");
        Check.due("a foul sort is an error", x.copies(), 0);
        x.spill(2, 0, 1);
        x.buy(0, 1);
        Cases.type(x, "a");
        Check.due("up to the foul sort", x.copies(), 1);
    }

    private static void manyCopies() {
        SortsCase x = new SortsCase();
        for (int count = 0; count < 8; count++) {
            x.buy(26, 30);
        }
        x.buy(26, 10);
        Cases.type(x, " ");
        Check.due("250 copies", x.copies(), 250);
        Cases.type(x, "                ");
        Check.due("15 copies", x.copies(), 15);
    }

    private static void best() {
        SortsCase x = new SortsCase();
        Cases.buyFor(x, "aabbcc");
        Cases.setText(x, 0, "a");
        Cases.setText(x, 1, "bb");
        Cases.setText(x, 2, "ca");
        Cases.type(x, "bb");
        Check.due("the forme that has both", x.bestToDistribute(), 1);
        Cases.type(x, "c");
        Check.due("all the same, the lowest", x.bestToDistribute(), 0);
        Cases.type(x, "cc");
        Check.due("the last one", x.bestToDistribute(), 2);
        Cases.type(x, "bbb");
        Check.due("the fewest, though not none", x.bestToDistribute(), 1);
        x.distribute(2);
        Cases.type(x, "cca");
        Check.due("a forme without lines is tried, too", x.bestToDistribute(), 0);
        Cases.type(x, "aca");
        Check.due("a is in forme 0 alone", x.bestToDistribute(), 0);
    }

    private static void bestWithSlips() {
        SortsCase x = new SortsCase();
        Cases.buyFor(x, "aab");
        Cases.setText(x, 0, "ba");
        Cases.setText(x, 1, "a");
        x.set(2, 3);
        Cases.type(x, "a");
        Check.due("the second of forme 0 would slip", x.bestToDistribute(), 1);
        x.distribute(2);
        x.set(0, 3);
        Check.due("without slips", x.bestToDistribute(), 0);
        bestIsNotToDistribute();
        bestWithErrorsAlone();
    }

    private static void bestWithErrorsAlone() {
        SortsCase x = new SortsCase();
        x.buy(0, 17);
        Cases.setText(x, 0, "a");
        Cases.type(x, "bbbbbbbbbbbbbbbb");
        Check.due("16 errors each way", x.bestToDistribute(), 0);
        Check.due("errorsIfSet()", x.errorsIfSet(), 16);
        Check.due("turnedIfSet()", x.turnedIfSet(), 16);
        x.buy(1, 1);
        x.spill(1, 0, 1);
        x.distribute(0);
        x.setLine(2);
        Check.due("only forme 2 has the sorts", x.bestToDistribute(), 2);
    }

    private static void bestIsNotToDistribute() {
        SortsCase x = new SortsCase();
        Cases.buyFor(x, "aaaab");
        Cases.setText(x, 0, "aa");
        Cases.setText(x, 1, "aa");
        Cases.type(x, "b");
        x.set(2, 3);
        Check.due("formes 0 and 1 would foul the box", x.bestToDistribute(), 2);
        x.set(3, 3);
        Check.due("with another slip they would not", x.bestToDistribute(), 0);
        x.distribute(1);
        Check.due("the numbers go on", x.bestToDistribute(), 1);
    }

    private static void bestOfSeveral() {
        SortsCase x = new SortsCase();
        Cases.buyFor(x, "mw");
        Cases.setText(x, 2, "m");
        Cases.setText(x, 1, "w");
        Cases.type(x, "m");
        Check.due("only forme 1 and 2 make it possible", x.bestToDistribute(), 2);
        Cases.type(x, "w");
        Check.due("forme 1", x.bestToDistribute(), 1);
        Cases.type(x, "mw");
        Check.due("no forme alone is enough", x.bestToDistribute(), SortsCase.NONE);
    }

    private static void order() {
        SortsCase x = new SortsCase();
        Check.dueDouble("order() without sorts", x.order(), 1.0);
        x.buy(0, 3);
        Check.dueDouble("order() of clean boxes", x.order(), 1.0);
        x.spill(0, 1, 1);
        Check.dueDouble("order() of two in three", x.order(), 2.0 / 3.0);
        x.spill(0, 1, 2);
        Check.dueDouble("order() of foul boxes", x.order(), 0.0);
        x.spill(1, 0, 2);
        Cases.setText(x, 0, "b");
        Check.dueDouble("order() of boxes alone", x.order(), 1.0);
        x.distribute(0);
        x.buy(1, 4);
        x.spill(1, 0, 1);
        Check.dueDouble("order() of six in seven", x.order(), 6.0 / 7.0);
        Cases.setText(x, 0, "aaaabbb");
        Check.dueDouble("order() with all in the forme", x.order(), 1.0);
    }
}
