/**
 * Calls with several wrong inputs at once throw what the document lists first, and change nothing: neither the
 * state nor a saved one, of four that are all different.
 */
final class RefusalTests {
    private static final int[] NO_LETTER = {-1, 27, Integer.MIN_VALUE, Integer.MAX_VALUE};
    private static final int[] NO_FORME = {-1, 3, Integer.MIN_VALUE, Integer.MAX_VALUE};
    private static final int[] NO_MANY = {0, 31, -1, Integer.MIN_VALUE, Integer.MAX_VALUE};

    private RefusalTests() {
    }

    static void run() {
        buying();
        spilling();
        setting();
        askingForLetters();
        askingForInBox();
        settingLines();
        wholeFormes();
        askingForFormes();
        askingForPlaces();
        askingForProofs();
        appending();
    }

    /** Index, then argument, then state. */
    private static void buying() {
        for (int letter : NO_LETTER) {
            for (int many : NO_MANY) {
                Twins.noIndex("buy(" + letter + ", " + many + ") at 250", Cases::full, x -> x.buy(letter, many));
                Twins.noIndex("buy(" + letter + ", " + many + ")", Cases::rich, x -> x.buy(letter, many));
            }
            Twins.noIndex("buy(" + letter + ", 1) at 250", Cases::full, x -> x.buy(letter, 1));
        }
        for (int many : NO_MANY) {
            Twins.badArgument("buy(26, " + many + ") at 250", Cases::full, x -> x.buy(26, many));
            Twins.badArgument("buy(26, " + many + ")", Cases::rich, x -> x.buy(26, many));
        }
        Twins.badState("buy(0, 1) at 250", Cases::full, x -> x.buy(0, 1));
        Twins.badState("buyLacking() at 250", () -> {
            SortsCase x = Cases.full();
            Cases.type(x, "z");
            return x;
        }, SortsCase::buyLacking);
    }

    private static void spilling() {
        for (int letter : NO_LETTER) {
            for (int many : NO_MANY) {
                Twins.noIndex("spill from " + letter + " of " + many, Cases::rich, x -> x.spill(letter, 0, many));
                Twins.noIndex("spill to " + letter + " of " + many, Cases::rich, x -> x.spill(0, letter, many));
                Twins.noIndex("spill from and to " + letter, Cases::rich, x -> x.spill(letter, letter, many));
            }
            Twins.noIndex("spill from an empty box to " + letter, Cases::rich, x -> x.spill(25, letter, 1));
            Twins.noIndex("spill from " + letter + " to itself", Cases::rich, x -> x.spill(letter, letter, 1));
        }
        for (int many : NO_MANY) {
            Twins.badArgument("spill(25, 25, " + many + ")", Cases::rich, x -> x.spill(25, 25, many));
            Twins.badArgument("spill(25, 0, " + many + ") of an empty box", Cases::rich, x -> x.spill(25, 0, many));
        }
        Twins.badArgument("spill(0, 0, 1)", Cases::rich, x -> x.spill(0, 0, 1));
        Twins.badArgument("spill(25, 25, 1) of an empty box", Cases::rich, x -> x.spill(25, 25, 1));
        Twins.badState("spill(25, 0, 1) of an empty box", Cases::rich, x -> x.spill(25, 0, 1));
    }

    private static void setting() {
        for (int slip : new int[] {-1, 1, 51, Integer.MIN_VALUE, Integer.MAX_VALUE}) {
            for (int price : new int[] {-1, 0, 99, 100, Integer.MIN_VALUE, Integer.MAX_VALUE}) {
                Twins.badArgument("set(" + slip + ", " + price + ")", Cases::rich, x -> x.set(slip, price));
            }
        }
        for (int price : new int[] {-1, 100, Integer.MIN_VALUE, Integer.MAX_VALUE}) {
            for (int slip : new int[] {0, 2, 50}) {
                Twins.badArgument("set(" + slip + ", " + price + ")", Cases::rich, x -> x.set(slip, price));
            }
        }
    }

    private static void askingForLetters() {
        for (int letter : NO_LETTER) {
            for (int what : new int[] {-1, 0, 7, 8, Integer.MIN_VALUE, Integer.MAX_VALUE}) {
                Twins.noIndex("letter(" + letter + ", " + what + ")", Cases::rich, x -> x.letter(letter, what));
            }
            Twins.noIndex("clean(" + letter + ")", Cases::rich, x -> x.clean(letter));
        }
        for (int what : new int[] {-1, 8, Integer.MIN_VALUE, Integer.MAX_VALUE}) {
            Twins.badArgument("letter(0, " + what + ")", Cases::rich, x -> x.letter(0, what));
            Twins.badArgument("letter(26, " + what + ")", Cases::rich, x -> x.letter(26, what));
        }
        for (int what : new int[] {-1, 12, Integer.MIN_VALUE, Integer.MAX_VALUE}) {
            Twins.badArgument("value(" + what + ")", Cases::rich, x -> x.value(what));
        }
    }

    private static void askingForInBox() {
        for (int index : new int[] {-1, 0, 250, Integer.MIN_VALUE, Integer.MAX_VALUE}) {
            for (int letter : NO_LETTER) {
                Twins.noIndex("inBox(" + letter + ", " + index + ")", Cases::rich, x -> x.inBox(letter, index));
            }
            Twins.noIndex("inBox(25, " + index + ")", Cases::rich, x -> x.inBox(25, index));
        }
        int size = Cases.rich().letter(1, 0);
        for (int index : new int[] {-1, size, size + 1, 249, 250, Integer.MIN_VALUE, Integer.MAX_VALUE}) {
            Twins.noIndex("inBox(1, " + index + ")", Cases::rich, x -> x.inBox(1, index));
        }
        int heap = Cases.rich().value(2);
        for (int index : new int[] {-1, heap, heap + 1, 249, 250, Integer.MIN_VALUE, Integer.MAX_VALUE}) {
            Twins.noIndex("inHeap(" + index + ")", Cases::rich, x -> x.inHeap(index));
        }
    }

    /** Index, then state: no text, a full forme, and a line that cannot be set are all the same. */
    private static void settingLines() {
        Twins.Maker noText = () -> cleared(Cases.rich());
        Twins.Maker notToBeSet = () -> {
            SortsCase x = Cases.rich();
            Cases.type(x, "aw");
            return x;
        };
        Twins.Maker fullWithoutText = () -> cleared(Cases.fullForme());
        Twins.Maker fullNotToBeSet = () -> {
            SortsCase x = Cases.fullForme();
            Cases.type(x, " ");
            return x;
        };
        for (int forme : NO_FORME) {
            Twins.noIndex("setLine(" + forme + ")", Cases::rich, x -> x.setLine(forme));
            Twins.noIndex("setLine(" + forme + ") without text", noText, x -> x.setLine(forme));
            Twins.noIndex("setLine(" + forme + ") without sorts", notToBeSet, x -> x.setLine(forme));
            Twins.noIndex("setLine(" + forme + ") with a full forme", fullWithoutText, x -> x.setLine(forme));
        }
        for (int forme = 0; forme <= 2; forme++) {
            int asked = forme;
            Twins.badState("setLine(" + forme + ") without text", noText, x -> x.setLine(asked));
            Twins.badState("setLine(" + forme + ") without sorts", notToBeSet, x -> x.setLine(asked));
        }
        Twins.badState("setLine(0) of a full forme", Cases::fullForme, x -> x.setLine(0));
        Twins.badState("setLine(0) of a full forme without text", fullWithoutText, x -> x.setLine(0));
        Twins.badState("setLine(0) of a full forme without sorts", fullNotToBeSet, x -> x.setLine(0));
    }

    private static SortsCase cleared(SortsCase x) {
        x.clearText();
        return x;
    }

    private static void wholeFormes() {
        for (int forme : NO_FORME) {
            Twins.noIndex("correct(" + forme + ")", Cases::rich, x -> x.correct(forme));
            Twins.noIndex("distribute(" + forme + ")", Cases::rich, x -> x.distribute(forme));
            Twins.noIndex("pie(" + forme + ")", Cases::rich, x -> x.pie(forme));
        }
        for (int many : new int[] {-1, 0, 100, Integer.MIN_VALUE, Integer.MAX_VALUE}) {
            Twins.badArgument("sortHeap(" + many + ")", Cases::rich, x -> x.sortHeap(many));
            Twins.badArgument("sortHeap(" + many + ") of none", Cases::fullForme, x -> x.sortHeap(many));
        }
    }

    private static void askingForFormes() {
        for (int forme : NO_FORME) {
            for (int what : new int[] {-1, 0, 4, 5, Integer.MIN_VALUE, Integer.MAX_VALUE}) {
                Twins.noIndex("forme(" + forme + ", " + what + ")", Cases::rich, x -> x.forme(forme, what));
            }
        }
        for (int what : new int[] {-1, 5, Integer.MIN_VALUE, Integer.MAX_VALUE}) {
            for (int forme = 0; forme <= 2; forme++) {
                int asked = forme;
                Twins.badArgument("forme(" + forme + ", " + what + ")", Cases::rich, x -> x.forme(asked, what));
            }
        }
    }

    private static void askingForPlaces() {
        int[] noIndex = {-1, 99, Integer.MIN_VALUE, Integer.MAX_VALUE};
        for (int wrong : noIndex) {
            for (int what : new int[] {-1, 0, 3, 4, Integer.MIN_VALUE, Integer.MAX_VALUE}) {
                String end = wrong + ", what " + what;
                Twins.noIndex("place of forme " + end, Cases::rich, x -> x.place(wrong, 0, 0, what));
                Twins.noIndex("place of line " + end, Cases::rich, x -> x.place(0, wrong, 0, what));
                Twins.noIndex("place " + end, Cases::rich, x -> x.place(0, 0, wrong, what));
                Twins.noIndex("place of nothing " + end, Cases::rich, x -> x.place(wrong, wrong, wrong, what));
                Twins.noIndex("place of a forme without lines " + end, Cases::rich, x -> x.place(2, 0, 0, what));
            }
            Twins.noIndex("places of forme " + wrong, Cases::rich, x -> x.places(wrong, 0));
            Twins.noIndex("places of line " + wrong, Cases::rich, x -> x.places(0, wrong));
            Twins.noIndex("places of forme and line " + wrong, Cases::rich, x -> x.places(wrong, wrong));
        }
        for (int what : new int[] {-1, 4, Integer.MIN_VALUE, Integer.MAX_VALUE}) {
            Twins.badArgument("place(0, 0, 0, " + what + ")", Cases::rich, x -> x.place(0, 0, 0, what));
            Twins.badArgument("place(0, 1, 3, " + what + ")", Cases::rich, x -> x.place(0, 1, 3, what));
        }
    }

    private static void askingForProofs() {
        for (int forme : NO_FORME) {
            for (int index : new int[] {-1, 0, 99, Integer.MIN_VALUE, Integer.MAX_VALUE}) {
                Twins.noIndex("proof(" + forme + ", " + index + ")", Cases::rich, x -> x.proof(forme, index));
            }
        }
        for (int forme = 0; forme <= 2; forme++) {
            int asked = forme;
            Twins.noIndex("proof(" + forme + ", -1)", Cases::rich, x -> x.proof(asked, -1));
            Twins.noIndex("proof of the least index", Cases::rich, x -> x.proof(asked, Integer.MIN_VALUE));
        }
    }

    /** Argument, then state. */
    private static void appending() {
        Twins.Maker fullText = () -> {
            SortsCase x = Cases.rich();
            Cases.type(x, "abcdefghijklmnop");
            return x;
        };
        for (int value : new int[] {-1, 0, 31, 33, 96, 123, Integer.MIN_VALUE, Integer.MAX_VALUE}) {
            Twins.badArgument("append(" + value + ")", Cases::rich, x -> x.append(value));
            Twins.badArgument("append(" + value + ") to 16", fullText, x -> x.append(value));
        }
        for (int value : new int[] {32, 97, 122}) {
            Twins.badState("append(" + value + ") to 16", fullText, x -> x.append(value));
        }
    }
}
