import java.util.Arrays;
import java.util.Random;

/** Long runs of calls on SortsCase and on PlainModel, whose answers must be the same. */
final class ModelTests {
    private static final int RUNS = 400;
    // A digest stands behind each call, and the document promises 512 calls in all.
    private static final int CALLS = 256;
    // Every other run begins near the limits: 240 sorts and a text of 16 letters.
    private static final int FIRST_BUYS = 8;
    private static final int FIRST_LETTERS = 16;
    private static final String[] CALL_NAMES = {
        "buy", "buy", "buyLacking", "spill", "spill", "clean", "set", "letter", "inBox", "value", "setLine",
        "setLine", "setLine", "correct", "distribute", "pie", "sortHeap", "forme", "places", "place", "proof",
        "inHeap", "errorsIfSet", "turnedIfSet", "copies", "bestToDistribute", "order", "append", "append",
        "append", "clearText", "undo", "digest"
    };
    private static final int[] WRONG = {-1, -2, 27, 100, Integer.MIN_VALUE, Integer.MAX_VALUE};

    private final Random random;
    private final int[] letters;
    private final SortsCase x = new SortsCase();
    private final PlainModel model = new PlainModel();

    private ModelTests(int seed) {
        random = new Random(seed);
        // Few letters make foul boxes, borrowing and full formes likely.
        letters = new int[2 + random.nextInt(6)];
        for (int i = 0; i < letters.length; i++) {
            letters[i] = random.nextInt(4) == 0 ? 26 : random.nextInt(27);
        }
    }

    static void run() {
        for (int seed = 1; seed <= RUNS; seed++) {
            Check.that("run " + seed + " is as in the model", new ModelTests(seed).playsAlike(seed));
        }
    }

    private boolean playsAlike(int seed) {
        int crowding = seed % 2 == 0 ? FIRST_BUYS + FIRST_LETTERS : 0;
        for (int count = 0; count < CALLS; count++) {
            String where = "run " + seed + ", call " + count;
            if (!(count < crowding ? crowds(where, count) : playsAny(where))) {
                return false;
            }
        }
        return true;
    }

    private boolean crowds(String where, int count) {
        return count < FIRST_BUYS ? playsAlike(where, "buy", letter(), 30)
                : playsAlike(where, "append", value(letter()));
    }

    private boolean playsAny(String where) {
        String call = CALL_NAMES[random.nextInt(CALL_NAMES.length)];
        return playsAlike(where, call, arguments(call));
    }

    private boolean playsAlike(String where, String call, int... a) {
        Object got = answer(call, a);
        Object due = model.play(call, a);
        if (!got.equals(due) || x.digest() != (Long) model.play("digest")) {
            System.out.println(where + ": " + call + Arrays.toString(a) + " answered " + got + ", the model " + due);
            return false;
        }
        return true;
    }

    private int letter() {
        return letters[random.nextInt(letters.length)];
    }

    private int[] arguments(String call) {
        int[] a = switch (call) {
            case "buy" -> new int[] {letter(), 1 + random.nextInt(random.nextInt(4) == 0 ? 30 : 6)};
            case "spill" -> new int[] {letter(), letter(), 1 + random.nextInt(4)};
            case "clean" -> new int[] {letter()};
            case "set" -> new int[] {random.nextInt(random.nextInt(4) == 0 ? 51 : 5), random.nextInt(100)};
            case "letter" -> new int[] {letter(), random.nextInt(8)};
            case "inBox" -> new int[] {letter(), random.nextInt(6)};
            case "value" -> new int[] {random.nextInt(12)};
            case "setLine", "correct", "distribute", "pie" -> new int[] {random.nextInt(3)};
            case "sortHeap" -> new int[] {1 + random.nextInt(20)};
            case "forme" -> new int[] {random.nextInt(3), random.nextInt(5)};
            case "places" -> new int[] {random.nextInt(3), random.nextInt(5)};
            case "place" -> new int[] {random.nextInt(3), random.nextInt(3), random.nextInt(6), random.nextInt(4)};
            case "proof" -> new int[] {random.nextInt(3), random.nextInt(6)};
            case "inHeap" -> new int[] {random.nextInt(10)};
            case "append" -> new int[] {value(letter())};
            default -> new int[0];
        };
        for (int i = 0; i < a.length; i++) {
            if (random.nextInt(25) == 0) {
                a[i] = WRONG[random.nextInt(WRONG.length)];
            }
        }
        return a;
    }

    private static int value(int letter) {
        return letter == 26 ? ' ' : 'a' + letter;
    }

    private Object answer(String call, int[] a) {
        try {
            return play(call, a);
        } catch (RuntimeException e) {
            return e.getClass();
        }
    }

    private Object play(String call, int[] a) {
        return switch (call) {
            case "buy" -> x.buy(a[0], a[1]);
            case "buyLacking" -> x.buyLacking();
            case "spill" -> x.spill(a[0], a[1], a[2]);
            case "clean" -> x.clean(a[0]);
            case "set" -> x.set(a[0], a[1]);
            case "letter" -> x.letter(a[0], a[1]);
            case "inBox" -> x.inBox(a[0], a[1]);
            case "value" -> x.value(a[0]);
            case "setLine" -> x.setLine(a[0]);
            case "correct" -> x.correct(a[0]);
            case "distribute" -> x.distribute(a[0]);
            case "pie" -> x.pie(a[0]);
            case "sortHeap" -> x.sortHeap(a[0]);
            case "forme" -> x.forme(a[0], a[1]);
            case "places" -> x.places(a[0], a[1]);
            case "place" -> x.place(a[0], a[1], a[2], a[3]);
            case "proof" -> x.proof(a[0], a[1]);
            case "inHeap" -> x.inHeap(a[0]);
            case "errorsIfSet" -> x.errorsIfSet();
            case "turnedIfSet" -> x.turnedIfSet();
            case "copies" -> x.copies();
            case "bestToDistribute" -> x.bestToDistribute();
            case "order" -> x.order();
            case "append" -> x.append(a[0]);
            case "clearText" -> x.clearText();
            case "undo" -> x.undo();
            case "digest" -> x.digest();
            default -> throw new AssertionError(call);
        };
    }
}
