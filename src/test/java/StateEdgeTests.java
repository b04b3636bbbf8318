import java.math.BigInteger;
import java.util.List;

/** Promises 25 to 28, and the terms of undo, at their edges. */
final class StateEdgeTests {
    private StateEdgeTests() {
    }

    static void run() {
        richIsRich();
        firstAndLastByte();
        sixteenBytes();
        clearingFullAndEmpty();
        savedByEachCall();
        savedThoughNothingChanges();
        savedByNoOtherCall();
        savedByNoRefusedCall();
        fourStatesAtMost();
        undoingTheLastOne();
        undoKeepsTheText();
        undoBringsBackAllNumbers();
        digestSeesEachPart();
        digestOfManyStates();
        digestWrapsAround();
        fiveHundredAndTwelveCalls();
    }

    /** The other tests want a case that has something of everything. */
    private static void richIsRich() {
        SortsCase x = Cases.rich();
        for (int what = 0; what <= 11; what++) {
            Check.that("rich: value(" + what + ") is not 0", x.value(what) > 0);
        }
        Check.that("rich: some can be corrected", x.forme(0, 4) > 0);
        Check.due("rich: saved states", Twins.states(Cases.rich()).size() - 1, 4);
        Check.due("rich: saved states that differ", Twins.states(Cases.rich()).stream().distinct().count(), 5);
        Check.due("three saved", Twins.states(Cases.richWithThreeSaved()).size() - 1, 3);
    }

    /** Promise 25: "the byte, 97 to 122, or 32 for a space". */
    private static void firstAndLastByte() {
        for (int value = 97; value <= 122; value++) {
            SortsCase x = new SortsCase();
            Check.due("append(" + value + ")", x.append(value), 1);
            Check.due("letter of " + value, x.letter(value - 97, 7), 1);
        }
        SortsCase x = new SortsCase();
        Check.due("append(32)", x.append(32), 1);
        Check.due("letter of 32", x.letter(26, 7), 1);
        int[] others = {96, 123, 31, 33, 0, -1, -97, 26, 64, 65, 90, 95, 127, 353, 288, 65536 + 97,
            Integer.MIN_VALUE, Integer.MIN_VALUE + 97, Integer.MAX_VALUE};
        for (int value : others) {
            Twins.badArgument("append(" + value + ")", Cases::rich, y -> y.append(value));
        }
    }

    /** Promise 25: "if the text has 16 bytes"; an unknown byte is told first. */
    private static void sixteenBytes() {
        Twins.Maker fullText = () -> {
            SortsCase x = Cases.rich();
            Cases.type(x, "abcdefghijklmno");
            Check.due("the 16th byte", x.append(32), 16);
            return x;
        };
        Twins.badState("append(97) to 16", fullText, x -> x.append(97));
        Twins.badState("append(122) to 16", fullText, x -> x.append(122));
        Twins.badState("append(32) to 16", fullText, x -> x.append(32));
        Twins.badArgument("append(96) to 16", fullText, x -> x.append(96));
        Twins.badArgument("append(-1) to 16", fullText, x -> x.append(-1));
        SortsCase x = fullText.make();
        Check.due("clearText() of 16", x.clearText(), 16);
        Check.due("append behind it", x.append(97), 1);
    }

    /** Promise 26: "Returns the length that it had". */
    private static void clearingFullAndEmpty() {
        SortsCase x = new SortsCase();
        Check.due("new: clearText()", x.clearText(), 0);
        for (int length = 1; length <= 16; length++) {
            for (int count = 0; count < length; count++) {
                x.append(122);
            }
            Check.due("clearText() of " + length, x.clearText(), length);
            Check.due("none lacks then", x.letter(25, 7), 0);
        }
        Check.due("the digest is that of a new object", x.digest(), new SortsCase().digest());
    }

    private static void eachUndoable(Twins.Maker maker) {
        Twins.savesAndChanges("buy", maker, x -> x.buy(4, 30));
        Twins.savesAndChanges("buyLacking", maker, SortsCase::buyLacking);
        Twins.savesAndChanges("spill", maker, x -> x.spill(0, 26, 1));
        Twins.savesAndChanges("clean", maker, x -> x.clean(1));
        Twins.savesAndChanges("set", maker, x -> x.set(0, 0));
        Twins.savesAndChanges("set of the slip", maker, x -> x.set(50, 7));
        Twins.savesAndChanges("set of the price", maker, x -> x.set(3, 8));
        Twins.savesAndChanges("setLine", maker, x -> x.setLine(2));
        Twins.savesAndChanges("correct", maker, x -> x.correct(0));
        Twins.savesAndChanges("distribute", maker, x -> x.distribute(0));
        Twins.savesAndChanges("pie", maker, x -> x.pie(0));
        Twins.savesAndChanges("sortHeap", maker, x -> x.sortHeap(1));
        Twins.savesAndChanges("sortHeap of all", maker, x -> x.sortHeap(99));
    }

    /** "Each successful call of a method whose description says "undoable" saves the state from before the call". */
    private static void savedByEachCall() {
        eachUndoable(() -> {
            SortsCase x = Cases.rich();
            Cases.type(x, "aaaaabb");
            return x;
        });
        eachUndoable(() -> {
            SortsCase x = Cases.richWithThreeSaved();
            Cases.type(x, "aaaaabb");
            return x;
        });
        Twins.savesAndChanges("the first call", SortsCase::new, x -> x.buy(0, 1));
    }

    /** "... even if the call changes nothing". */
    private static void savedThoughNothingChanges() {
        Twins.Maker[] makers = {SortsCase::new, StateEdgeTests::withNothingToDo, Cases::fullForme};
        for (int index = 0; index < makers.length; index++) {
            Twins.Maker maker = makers[index];
            String where = " of case " + index;
            Twins.savesUnchanged("buyLacking" + where, maker, SortsCase::buyLacking);
            Twins.savesUnchanged("clean" + where, maker, x -> x.clean(0));
            Twins.savesUnchanged("set" + where, maker, x -> x.set(0, 3));
            Twins.savesUnchanged("correct" + where, maker, x -> x.correct(0));
            Twins.savesUnchanged("distribute" + where, maker, x -> x.distribute(1));
            Twins.savesUnchanged("pie" + where, maker, x -> x.pie(1));
            Twins.savesUnchanged("sortHeap" + where, maker, x -> x.sortHeap(99));
        }
    }

    /** A line without errors in forme 0, clean boxes, no heap, and no letter of the text lacks. */
    private static SortsCase withNothingToDo() {
        SortsCase x = new SortsCase();
        Cases.buyFor(x, "aabb");
        Cases.setText(x, 0, "ab");
        return x;
    }

    private static void savedByNoOtherCall() {
        Twins.Maker maker = Cases::rich;
        for (int letter = 0; letter <= 26; letter++) {
            int asked = letter;
            Twins.asks("letter(" + letter + ", 0 to 7)", maker, x -> {
                for (int what = 0; what <= 7; what++) {
                    x.letter(asked, what);
                }
            });
        }
        Twins.asks("inBox(0, 0)", maker, x -> x.inBox(0, 0));
        Twins.asks("value(0 to 11)", maker, x -> {
            for (int what = 0; what <= 11; what++) {
                x.value(what);
            }
        });
        Twins.asks("forme(0, 0 to 4)", maker, x -> {
            for (int what = 0; what <= 4; what++) {
                x.forme(0, what);
            }
        });
        Twins.asks("places(0, 0)", maker, x -> x.places(0, 0));
        Twins.asks("place(0, 0, 0, 0 to 3)", maker, x -> {
            for (int what = 0; what <= 3; what++) {
                x.place(0, 0, 0, what);
            }
        });
        Twins.asks("proof(0, 0)", maker, x -> x.proof(0, 0));
        Twins.asks("proof(0, 99)", maker, x -> x.proof(0, 99));
        Twins.asks("inHeap(0)", maker, x -> x.inHeap(0));
        Twins.asks("digest()", maker, SortsCase::digest);
        Twins.asks("clearText() and append()", maker, x -> Cases.type(x, "ab c"));
        Twins.asks("append() and clearText()", maker, x -> {
            x.append(97);
            Cases.type(x, "ab c");
        });
    }

    /** A refused call is not a successful one: the oldest saved state is still there, and no new one. */
    private static void savedByNoRefusedCall() {
        Twins.badState("buy at 250", Cases::full, x -> x.buy(0, 1));
        Twins.badArgument("buy(0, 0)", Cases::rich, x -> x.buy(0, 0));
        Twins.noIndex("clean(27)", Cases::rich, x -> x.clean(27));
        Twins.badArgument("set(1, 0)", Cases::rich, x -> x.set(1, 0));
        Twins.badArgument("set(0, 100)", Cases::rich, x -> x.set(0, 100));
        Twins.badState("spill of too many", Cases::rich, x -> x.spill(1, 0, 30));
        Twins.badState("setLine of a full forme", Cases::fullForme, x -> x.setLine(0));
        Twins.noIndex("correct(3)", Cases::rich, x -> x.correct(3));
        Twins.noIndex("distribute(-1)", Cases::rich, x -> x.distribute(-1));
        Twins.noIndex("pie(3)", Cases::rich, x -> x.pie(3));
        Twins.badArgument("sortHeap(0)", Cases::rich, x -> x.sortHeap(0));
        Twins.badState("undo of nothing", SortsCase::new, SortsCase::undo);
    }

    /** "at most 4 states are saved, and the oldest is dropped first". */
    private static void fourStatesAtMost() {
        for (int calls = 0; calls <= 7; calls++) {
            SortsCase x = new SortsCase();
            for (int count = 1; count <= calls; count++) {
                x.buy(0, count);
            }
            int saved = Math.min(calls, 4);
            for (int undone = 1; undone <= saved; undone++) {
                Check.due(calls + " calls, undo " + undone, x.undo(), saved - undone);
                int left = calls - undone;
                Check.due(calls + " calls, sorts behind undo " + undone, x.value(3), left * (left + 1) / 2);
            }
            Check.badState(calls + " calls, one undo too many", x, x::undo);
            x.buy(1, 1);
            Check.due(calls + " calls, saved anew", x.undo(), 0);
        }
    }

    /** Promise 27: "Restores the most recently saved state and removes it"; undo itself is not undoable. */
    private static void undoingTheLastOne() {
        List<Long> states = Twins.states(Cases.rich());
        SortsCase x = Cases.rich();
        x.undo();
        Check.that("undo takes one away", Twins.states(x).equals(states.subList(1, 5)));
        SortsCase y = Cases.rich();
        for (int remaining = 3; remaining >= 0; remaining--) {
            Check.due("undo()", y.undo(), remaining);
        }
        Check.badState("no saved state", y, y::undo);
        Check.badState("again no saved state", y, y::undo);
        y.buy(0, 1);
        Check.due("a state is saved again", y.undo(), 0);
        Check.badState("and is gone again", y, y::undo);
    }

    /** "The saved state contains everything except the text." */
    private static void undoKeepsTheText() {
        SortsCase x = new SortsCase();
        Cases.type(x, "ab");
        x.buyLacking();
        Cases.type(x, "zzz");
        Check.due("undo()", x.undo(), 0);
        Check.due("z lacks", x.letter(25, 7), 3);
        Check.due("a does not", x.letter(0, 7), 0);
        x.buy(25, 9);
        x.clearText();
        x.undo();
        Check.due("the text is empty still", x.clearText(), 0);
    }

    private static void undoBringsBackAllNumbers() {
        SortsCase x = Cases.rich();
        long before = x.digest();
        int[] values = new int[12];
        for (int what = 0; what <= 11; what++) {
            values[what] = x.value(what);
        }
        x.set(2, 50);
        x.buyLacking();
        x.distribute(0);
        x.sortHeap(1);
        for (int count = 0; count < 4; count++) {
            x.undo();
        }
        for (int what = 0; what <= 11; what++) {
            Check.due("value(" + what + ") behind four undos", x.value(what), values[what]);
        }
        Check.due("digest but for the saved states", x.digest(), before - 4);
        Check.due("the slip counts again", x.set(0, 0), values[4]);
    }

    /** Promise 28: "for each of the following values": each of them makes another hash. */
    private static void digestSeesEachPart() {
        // Four states are saved already, so that their number is the same behind a call that saves one more.
        digestSees("the order of the text", Cases::rich, x -> Cases.type(x, "ba c"));
        digestSees("one letter more", Cases::rich, x -> x.append(97));
        digestSees("one space more", Cases::rich, x -> x.append(32));
        digestSees("the slip", Cases::rich, x -> x.set(4, x.value(5)));
        digestSees("the price", Cases::rich, x -> x.set(x.value(4), 8));
        digestSees("the number of saved states", Cases::richWithThreeSaved, x -> x.set(x.value(4), x.value(5)));
        Check.due("the number of saved states comes last", withSaved(3).digest() - withSaved(2).digest(), 1);
        Check.due("four saved states at most", withSaved(5).digest(), withSaved(4).digest());
        Check.that("the digest sees the order in a box", spilt(0, 1).digest() != spilt(1, 0).digest());
        Check.that("the digest sees the order of the heap", pied("ab").digest() != pied("ba").digest());
    }

    private static void digestSees(String what, Twins.Maker maker, Twins.Call call) {
        SortsCase x = maker.make();
        call.on(x);
        Check.that("the digest sees " + what, x.digest() != maker.make().digest());
    }

    private static SortsCase withSaved(int states) {
        SortsCase x = new SortsCase();
        for (int count = 0; count < states; count++) {
            x.clean(0);
        }
        return x;
    }

    /** A box of "c" that has a sort of each of the two letters, in this order. */
    private static SortsCase spilt(int below, int above) {
        SortsCase x = new SortsCase();
        x.buy(0, 1);
        x.buy(1, 1);
        x.spill(below, 2, 1);
        x.spill(above, 2, 1);
        return x;
    }

    /** A heap of these two sorts, and nothing else but the text "ab". */
    private static SortsCase pied(String line) {
        SortsCase x = new SortsCase();
        x.buy(0, 1);
        x.buy(1, 1);
        Cases.setText(x, 0, line);
        x.pie(0);
        Cases.type(x, "ab");
        return x;
    }

    private static void digestOfManyStates() {
        Check.due("rich", Cases.rich().digest(), StateTests.digest(Cases.rich(), "ab c", 4));
        Check.due("three saved", Cases.richWithThreeSaved().digest(),
                StateTests.digest(Cases.richWithThreeSaved(), "ab c", 3));
        Check.due("full", Cases.full().digest(), StateTests.digest(Cases.full(), "ab", 4));
        Check.due("full forme", Cases.fullForme().digest(), StateTests.digest(Cases.fullForme(), "a", 4));
        SortsCase x = Cases.full();
        Cases.type(x, "abcdefghijklmno ");
        Check.due("the longest text", x.digest(), StateTests.digest(x, "abcdefghijklmno ", 4));
        x.undo();
        x.undo();
        x.undo();
        Check.due("one saved", x.digest(), StateTests.digest(x, "abcdefghijklmno ", 1));
        x.undo();
        Check.due("none saved", x.digest(), StateTests.digest(x, "abcdefghijklmno ", 0));
    }

    /** Promise 28: "with the overflow of long arithmetic ignored": reckoned here without any. */
    private static void digestWrapsAround() {
        BigInteger h = BigInteger.valueOf(3449);
        BigInteger factor = BigInteger.valueOf(31);
        int[] head = {0, 0, 0, 0, 0, 0, 3, 0, 0, 0, 0, 0, 0};
        for (int v : head) {
            h = h.multiply(factor).add(BigInteger.valueOf(v));
        }
        SortsCase x = new SortsCase();
        for (int letter = 0; letter <= 26; letter++) {
            for (int what = 0; what <= 7; what++) {
                h = h.multiply(factor).add(BigInteger.valueOf(x.letter(letter, what)));
            }
        }
        for (int count = 0; count < 16; count++) {
            h = h.multiply(factor);
        }
        Check.that("the hash is too large for a long", h.bitLength() > 64);
        Check.due("its last 64 bits", x.digest(), h.longValue());
    }

    /** "An object is used for at most 512 calls": the last ones are answered like the first ones. */
    private static void fiveHundredAndTwelveCalls() {
        SortsCase x = new SortsCase();
        x.buy(0, 30);
        Cases.type(x, "aaaaaaaaaaaaaaa");
        x.setLine(0);
        x.setLine(1);
        int calls = 1 + 1 + 15 + 2;
        int distributed = 0;
        while (calls + 2 <= 510) {
            distributed += x.distribute(calls % 2);
            x.setLine(calls % 2);
            calls += 2;
        }
        Check.due("distributed", x.value(8), distributed);
        Check.due("minutes", x.value(7), 30 + 2 * distributed);
        Check.due("calls", calls + 2, 511);
        Check.due("the 512th call", x.undo(), 3);
    }
}
