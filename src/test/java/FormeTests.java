/** Promises 10 to 19: the calls of the formes. */
final class FormeTests {
    private FormeTests() {
    }

    static void run() {
        settingLines();
        settingFoulSorts();
        borrowing();
        borrowingTies();
        notSetting();
        settingManyLines();
        correcting();
        correctingWithWhatComesBack();
        notCorrecting();
        distributing();
        distributingWithSlips();
        numberingDistributed();
        pieing();
        sortingTheHeap();
        formes();
        placesOfLines();
        proofs();
        lookingIntoTheHeap();
        noForme();
    }

    private static void settingLines() {
        SortsCase x = new SortsCase();
        Cases.buyFor(x, "a bba");
        Cases.type(x, "ab a");
        Check.due("setLine(1)", x.setLine(1), 0);
        Cases.dueText("line", Cases.line(x, 1, 0), "ab a");
        Check.due("minutes", x.value(7), 4);
        Cases.type(x, "b");
        Check.due("setLine(1)", x.setLine(1), 1);
        Check.due("the text stays", x.clearText(), 1);
        Check.due("boxes are empty", x.value(0), 0);
        Check.due("undo", x.undo(), 3);
        Check.due("lines", x.forme(1, 0), 1);
        Check.due("sorts in boxes", x.value(0), 1);
        Check.due("minutes undone", x.value(7), 4);
        Check.due("other formes", x.forme(0, 0) + x.forme(2, 0), 0);
    }

    private static void settingFoulSorts() {
        SortsCase x = new SortsCase();
        Cases.buyFor(x, "ab ");
        x.spill(26, 0, 1);
        Cases.setText(x, 0, "a");
        Cases.dueText("a foul space is put in upright", Cases.line(x, 0, 0), " ");
        Check.due("wanted", x.place(0, 0, 0, 0), 0);
        Check.due("it is an error", x.place(0, 0, 0, 3), 1);
        x.spill(1, 26, 1);
        Cases.setText(x, 0, " ");
        Cases.dueText("a foul b for a space", Cases.line(x, 0, 1), "b");
        Check.due("it is upright", x.place(0, 1, 0, 2), 0);
    }

    private static void borrowing() {
        SortsCase x = new SortsCase();
        Cases.buyFor(x, "fiijllltmww");
        Cases.setText(x, 0, "ttmmw");
        Cases.dueText("thin from l, wide from w", Cases.line(x, 0, 0), "tLmWw");
        Check.due("wanted at a turned one", x.place(0, 0, 1, 0), Cases.number('t'));
        Check.due("errors", x.forme(0, 2), 2);
    }

    private static void borrowingTies() {
        SortsCase x = new SortsCase();
        Cases.buyFor(x, "ccbbdm");
        x.spill(3, 2, 1);
        x.spill(2, 1, 1);
        // b has "bbd", c has "cc".
        Cases.setText(x, 0, "zzz");
        Cases.dueText("the fullest, of several the lowest, its topmost one", Cases.line(x, 0, 0), "DBC");
        Check.due("minutes of borrowed ones", x.value(7), 3);
        Check.due("turned", x.forme(0, 3), 3);
        SortsCase y = new SortsCase();
        Cases.buyFor(y, "ab");
        y.spill(0, 1, 1);
        Cases.setText(y, 0, "a");
        Cases.dueText("a borrowed a for an a", Cases.line(y, 0, 0), "A");
        Check.due("turned is an error", y.place(0, 0, 0, 3), 1);
    }

    private static void notSetting() {
        SortsCase x = new SortsCase();
        x.buy(0, 3);
        Check.badState("setLine without text", x, () -> x.setLine(0));
        Cases.type(x, " ");
        Check.badState("no space is borrowed", x, () -> x.setLine(0));
        Cases.type(x, "aai");
        Check.badState("none of this width", x, () -> x.setLine(0));
        Cases.type(x, "aam");
        Check.badState("none of this width, wide", x, () -> x.setLine(0));
        x.buy(26, 1);
        Cases.type(x, "a  ");
        Check.badState("the second space lacks", x, () -> x.setLine(0));
        Cases.type(x, "aaaa");
        Check.badState("the boxes run out", x, () -> x.setLine(0));
        Check.due("minutes", x.value(7), 0);
        Cases.type(x, "aaa");
        Check.due("just enough", x.setLine(0), 0);
    }

    private static void settingManyLines() {
        SortsCase x = new SortsCase();
        for (int count = 0; count < 4; count++) {
            x.buy(0, 30);
        }
        Cases.type(x, "aaaaaaaaaaaaaaaa");
        for (int line = 0; line < 5; line++) {
            Check.due("setLine(2)", x.setLine(2), line);
        }
        Check.badState("a sixth line", x, () -> x.setLine(2));
        Check.due("another forme has room", x.setLine(0), 0);
        Check.due("80 places", x.forme(2, 1), 80);
        Check.due("errorsIfSet without room is another thing", x.errorsIfSet(), 0);
        Check.due("distribute all", x.distribute(2), 80);
        Check.due("room again", x.setLine(2), 0);
    }

    private static void correcting() {
        SortsCase x = new SortsCase();
        Cases.buyFor(x, "abbc");
        x.spill(1, 0, 2);
        Cases.setText(x, 0, "aac");
        Cases.dueText("line", Cases.line(x, 0, 0), "bbc");
        Check.due("errors", x.forme(0, 2), 2);
        Check.due("what correct would do", x.forme(0, 4), 1);
        int minutes = x.value(7);
        Check.due("correct(0)", x.correct(0), 1);
        Cases.dueText("corrected from the first place on", Cases.line(x, 0, 0), "abc");
        Cases.dueText("its b is back", Cases.box(x, 'b'), "b");
        Check.due("minutes", x.value(7) - minutes, 3);
        x.undo();
        Cases.dueText("undone", Cases.line(x, 0, 0), "bbc");
        Cases.dueText("its a is back", Cases.box(x, 'a'), "a");
        correctingFromFoulBoxes();
        correctingTurnedOnes();
    }

    private static void correctingFromFoulBoxes() {
        SortsCase x = new SortsCase();
        Cases.buyFor(x, "ab");
        x.spill(1, 0, 1);
        Cases.setText(x, 2, "a");
        x.buy(0, 1);
        Cases.buyFor(x, "cd");
        x.spill(2, 0, 1);
        x.spill(3, 0, 1);
        Cases.dueText("box a", Cases.box(x, 'a'), "aacd");
        Check.due("correct(2)", x.correct(2), 1);
        Cases.dueText("the topmost a is taken", Cases.box(x, 'a'), "acd");
        Cases.dueText("b goes home", Cases.box(x, 'b'), "b");
        Cases.dueText("line", Cases.line(x, 2, 0), "a");
    }

    private static void correctingTurnedOnes() {
        SortsCase x = new SortsCase();
        Cases.buyFor(x, "ab");
        x.spill(0, 1, 1);
        Cases.setText(x, 0, "a");
        Check.due("the wanted letter, turned, stays", x.correct(0), 0);
        Check.due("still an error", x.forme(0, 2), 1);
        x.buy(0, 1);
        x.spill(1, 0, 1);
        Cases.dueText("box a", Cases.box(x, 'a'), "ab");
        Check.due("with another a it goes", x.correct(0), 1);
        Cases.dueText("the old a lies on top", Cases.box(x, 'a'), "ba");
        Check.due("upright", x.place(0, 0, 0, 2), 0);
        Check.due("no error", x.forme(0, 2), 0);
    }

    private static void correctingWithWhatComesBack() {
        SortsCase x = new SortsCase();
        Cases.buyFor(x, "ab");
        x.spill(0, 2, 1);
        x.spill(1, 0, 1);
        x.spill(2, 1, 1);
        Cases.setText(x, 1, "ab");
        Cases.dueText("line", Cases.line(x, 1, 0), "ba");
        Check.due("no sort is free", x.correct(1), 0);
        x.buy(0, 1);
        Check.due("one after the other", x.forme(1, 4), 2);
        Check.due("correct(1)", x.correct(1), 2);
        Cases.dueText("line", Cases.line(x, 1, 0), "ab");
        Cases.dueText("the a is left", Cases.box(x, 'a'), "a");
        Check.due("errors", x.forme(1, 2), 0);
    }

    /** What comes back from a later place is no help for an earlier one. */
    private static void notCorrecting() {
        SortsCase x = new SortsCase();
        Cases.buyFor(x, "abc");
        x.spill(0, 1, 1);
        x.spill(2, 0, 1);
        Cases.setText(x, 1, "ab");
        Cases.dueText("line", Cases.line(x, 1, 0), "ca");
        Check.due("what correct would do", x.forme(1, 4), 1);
        Check.due("correct(1)", x.correct(1), 1);
        Cases.dueText("the first place stays", Cases.line(x, 1, 0), "cb");
        Cases.dueText("its a is back", Cases.box(x, 'a'), "a");
        Check.due("a forme without lines", x.correct(0), 0);
        Check.due("again", x.correct(1), 1);
        Cases.dueText("the first place then", Cases.line(x, 1, 0), "ab");
        Check.due("no errors", x.correct(1), 0);
        Check.due("minutes", x.value(7), 2 + 6);
    }

    private static void distributing() {
        SortsCase x = new SortsCase();
        Cases.buyFor(x, "abc ");
        x.spill(2, 1, 1);
        Cases.setText(x, 0, "bd");
        x.buy(0, 1);
        Cases.setText(x, 0, "a ");
        Cases.dueText("line", Cases.line(x, 0, 0), "cA");
        Check.due("distribute(0)", x.distribute(0), 4);
        Cases.dueText("c by its own letter", Cases.box(x, 'c'), "c");
        Cases.dueText("a", Cases.box(x, 'a'), "aa");
        Cases.dueText("space", Cases.box(x, ' '), " ");
        Check.due("minutes", x.value(7), 8);
        Check.due("distributed", x.value(8), 4);
        Check.due("no lines", x.forme(0, 0), 0);
        Check.due("an empty forme", x.distribute(0), 0);
        Check.due("undo", x.undo(), 3);
        x.undo();
        Check.due("lines", x.forme(0, 0), 2);
        Check.due("distributed undone", x.value(8), 0);
        Cases.dueText("line again", Cases.line(x, 0, 1), "a ");
    }

    private static void distributingWithSlips() {
        SortsCase x = new SortsCase();
        Cases.buyFor(x, "ab z ");
        x.set(2, 3);
        Cases.setText(x, 0, "a ");
        Cases.setText(x, 0, "bz");
        Cases.setText(x, 0, " ");
        Check.due("distribute(0)", x.distribute(0), 5);
        Cases.dueText("the second, a space, goes to a", Cases.box(x, 'a'), "a ");
        Cases.dueText("the fourth, a z, goes to the space", Cases.box(x, ' '), "z ");
        Cases.dueText("the third goes home", Cases.box(x, 'b'), "b");
        Check.due("foul", x.value(9), 2);
    }

    private static void numberingDistributed() {
        SortsCase x = new SortsCase();
        x.buy(0, 5);
        Cases.setText(x, 0, "aaa");
        x.distribute(0);
        x.set(4, 3);
        Cases.setText(x, 0, "aa");
        x.distribute(0);
        Cases.dueText("the fourth of all slips", Cases.box(x, 'b'), "a");
        x.set(0, 3);
        Cases.setText(x, 1, "aaa");
        x.distribute(1);
        Check.due("without slip they are counted, too", x.value(8), 8);
        x.set(3, 3);
        Cases.setText(x, 2, "a");
        x.distribute(2);
        Cases.dueText("the ninth slips", Cases.box(x, 'b'), "aa");
    }

    private static void pieing() {
        SortsCase x = new SortsCase();
        Cases.buyFor(x, "abcd");
        x.set(2, 3);
        Cases.setText(x, 0, "ca");
        Cases.setText(x, 0, "b");
        Cases.setText(x, 1, "d");
        int minutes = x.value(7);
        Check.due("pie(1)", x.pie(1), 1);
        Check.due("pie(0)", x.pie(0), 4);
        Cases.dueText("at the end of the heap, in order", Cases.heap(x), "dcab");
        Check.due("no lines", x.forme(0, 0) + x.forme(1, 0), 0);
        Check.due("an empty forme", x.pie(2), 4);
        Check.due("no work", x.value(7), minutes);
        Check.due("not distributed", x.value(8), 0);
        x.undo();
        Check.due("undo", x.undo(), 2);
        Cases.dueText("heap", Cases.heap(x), "d");
        Check.due("lines", x.forme(0, 0), 2);
    }

    private static void sortingTheHeap() {
        SortsCase x = new SortsCase();
        Cases.buyFor(x, "bcaad");
        x.set(2, 3);
        Cases.setText(x, 0, "caab");
        x.pie(0);
        int minutes = x.value(7);
        Check.due("sortHeap(3)", x.sortHeap(3), 3);
        Cases.dueText("the first ones go", Cases.heap(x), "b");
        Cases.dueText("without slips", Cases.box(x, 'a'), "aa");
        Cases.dueText("c", Cases.box(x, 'c'), "c");
        Cases.dueText("b is not sorted yet", Cases.box(x, 'b'), "");
        Check.due("minutes", x.value(7) - minutes, 3);
        Check.due("not distributed", x.value(8), 0);
        Check.due("sortHeap(99)", x.sortHeap(99), 1);
        Check.due("sortHeap(1) of nothing", x.sortHeap(1), 0);
        Check.due("minutes", x.value(7) - minutes, 4);
        x.undo();
        Check.due("undo", x.undo(), 2);
        Cases.dueText("heap", Cases.heap(x), "b");
        for (int many : new int[] {0, 100, -1, Integer.MIN_VALUE, Integer.MAX_VALUE}) {
            Check.badArgument("sortHeap(" + many + ")", x, () -> x.sortHeap(many));
        }
        sortingOnTop();
        sortingManyOfTheHeap();
    }

    private static void sortingOnTop() {
        SortsCase x = new SortsCase();
        Cases.buyFor(x, "ab");
        Cases.setText(x, 0, "a");
        x.pie(0);
        x.spill(1, 0, 1);
        x.sortHeap(1);
        Cases.dueText("onto the top", Cases.box(x, 'a'), "ba");
    }

    private static void sortingManyOfTheHeap() {
        SortsCase x = new SortsCase();
        for (int count = 0; count < 4; count++) {
            x.buy(0, 30);
        }
        Cases.type(x, "aaaaaaaaaaaaaaaa");
        for (int count = 0; count < 7; count++) {
            x.setLine(count % 3);
        }
        for (int forme = 0; forme < 3; forme++) {
            x.pie(forme);
        }
        Check.due("heap", x.value(2), 112);
        Check.due("sortHeap(99)", x.sortHeap(99), 99);
        Check.due("heap then", x.value(2), 13);
        Check.due("sortHeap(14)", x.sortHeap(14), 13);
        Check.due("all sorts", x.value(3), 120);
    }

    private static void formes() {
        SortsCase x = new SortsCase();
        Cases.buyFor(x, "aabc");
        x.spill(1, 0, 1);
        x.spill(2, 0, 1);
        Cases.setText(x, 1, "ab");
        x.buy(0, 1);
        // Forme 1 has "c" for the a, and a turned b for the b.
        Cases.dueText("line", Cases.line(x, 1, 0), "cB");
        Cases.setText(x, 1, "aa");
        int[] due = {2, 4, 2, 1, 1};
        for (int what = 0; what < due.length; what++) {
            Check.due("forme(1, " + what + ")", x.forme(1, what), due[what]);
            Check.due("forme(0, " + what + ")", x.forme(0, what), 0);
        }
        for (int what : new int[] {5, -1, Integer.MIN_VALUE, Integer.MAX_VALUE}) {
            Check.badArgument("forme(0, " + what + ")", x, () -> x.forme(0, what));
            Check.noIndex("forme(3, " + what + ")", x, () -> x.forme(3, what));
        }
        long before = x.digest();
        x.forme(1, 4);
        Check.due("asking what correct would do changes nothing", x.digest(), before);
    }

    private static void placesOfLines() {
        SortsCase x = new SortsCase();
        Cases.buyFor(x, "aab");
        Cases.setText(x, 0, "ab");
        Cases.setText(x, 0, "c");
        Check.due("places(0, 0)", x.places(0, 0), 2);
        Check.due("places(0, 1)", x.places(0, 1), 1);
        int[] due = {2, 0, 1, 1};
        int[] dueBefore = {1, 1, 0, 0};
        for (int what = 0; what < due.length; what++) {
            Check.due("place(0, 1, 0, " + what + ")", x.place(0, 1, 0, what), due[what]);
            Check.due("place(0, 0, 1, " + what + ")", x.place(0, 0, 1, what), dueBefore[what]);
        }
        for (int wrong : new int[] {2, -1, Integer.MIN_VALUE, Integer.MAX_VALUE}) {
            Check.noIndex("places(0, " + wrong + ")", x, () -> x.places(0, wrong));
            Check.noIndex("place of line " + wrong, x, () -> x.place(0, wrong, 0, 4));
            Check.noIndex("place " + wrong, x, () -> x.place(0, 0, wrong, 4));
        }
        Check.noIndex("place(0, 2, 0, 0)", x, () -> x.place(0, 2, 0, 0));
        Check.noIndex("place(0, -1, 0, 0)", x, () -> x.place(0, -1, 0, 0));
        Check.noIndex("place(0, 1, -1, 0)", x, () -> x.place(0, 1, -1, 0));
        Check.noIndex("place behind the second line", x, () -> x.place(0, 1, 1, 0));
        Check.noIndex("places of a forme without lines", x, () -> x.places(1, 0));
        Check.noIndex("place of a forme without lines", x, () -> x.place(1, 0, 0, 0));
        for (int what : new int[] {4, -1, Integer.MIN_VALUE, Integer.MAX_VALUE}) {
            Check.badArgument("place(0, 0, 0, " + what + ")", x, () -> x.place(0, 0, 0, what));
        }
        x.distribute(0);
        Check.noIndex("place of a distributed line", x, () -> x.place(0, 0, 0, 0));
        Check.noIndex("places of a distributed line", x, () -> x.places(0, 0));
    }

    private static void proofs() {
        SortsCase x = new SortsCase();
        x.buy(0, 20);
        Cases.setText(x, 0, "aab");
        Cases.setText(x, 0, "a");
        Cases.setText(x, 0, "ba");
        Cases.setText(x, 0, "a");
        Cases.setText(x, 0, "aaaaaaaab");
        int[] due = {2, 200, 408, SortsCase.NONE};
        for (int index = 0; index < due.length; index++) {
            Check.due("proof(0, " + index + ")", x.proof(0, index), due[index]);
        }
        Check.due("proof far behind", x.proof(0, Integer.MAX_VALUE), SortsCase.NONE);
        Check.due("proof of a forme without lines", x.proof(1, 0), SortsCase.NONE);
        Check.noIndex("proof(0, -1)", x, () -> x.proof(0, -1));
        Check.noIndex("proof of the least index", x, () -> x.proof(0, Integer.MIN_VALUE));
    }

    private static void lookingIntoTheHeap() {
        SortsCase x = new SortsCase();
        Check.noIndex("inHeap(0) of an empty heap", x, () -> x.inHeap(0));
        Cases.buyFor(x, "ab");
        Cases.setText(x, 0, "ba");
        x.pie(0);
        Check.due("inHeap(0)", x.inHeap(0), 1);
        Check.due("inHeap(1)", x.inHeap(1), 0);
        for (int index : new int[] {2, -1, Integer.MIN_VALUE, Integer.MAX_VALUE}) {
            Check.noIndex("inHeap(" + index + ")", x, () -> x.inHeap(index));
        }
    }

    private static void noForme() {
        SortsCase x = new SortsCase();
        x.buy(0, 3);
        for (int forme = 0; forme < 3; forme++) {
            Cases.setText(x, forme, "a");
        }
        x.clearText();
        for (int forme : new int[] {3, -1, Integer.MIN_VALUE, Integer.MAX_VALUE}) {
            Check.noIndex("setLine(" + forme + ") without text", x, () -> x.setLine(forme));
            Check.noIndex("correct(" + forme + ")", x, () -> x.correct(forme));
            Check.noIndex("distribute(" + forme + ")", x, () -> x.distribute(forme));
            Check.noIndex("pie(" + forme + ")", x, () -> x.pie(forme));
            Check.noIndex("forme(" + forme + ", 5)", x, () -> x.forme(forme, 5));
            Check.noIndex("places(" + forme + ", 0)", x, () -> x.places(forme, 0));
            Check.noIndex("place(" + forme + ", 0, 0, 4)", x, () -> x.place(forme, 0, 0, 4));
            Check.noIndex("proof(" + forme + ", 0)", x, () -> x.proof(forme, 0));
        }
    }
}
