import java.util.ArrayDeque;
import java.util.ArrayList;
import java.util.Arrays;
import java.util.Deque;
import java.util.List;

/**
 * The document once more, written with lists and whole copies instead of the rows of SortsCase, so that long
 * runs of calls can be compared. A call that is refused answers with the exception's class.
 */
final class PlainModel {
    private record Place(int wanted, int sort, boolean turned) {
        boolean wrong() {
            return turned || wanted != sort;
        }
    }

    private static final String THIN = "fijlt";
    private static final String WIDE = "mw";
    private static final Object NO_INDEX = IndexOutOfBoundsException.class;
    private static final Object BAD_ARGUMENT = IllegalArgumentException.class;
    private static final Object BAD_STATE = IllegalStateException.class;

    private List<List<Integer>> boxes = new ArrayList<>();
    private List<List<List<Place>>> formes = new ArrayList<>();
    private List<Integer> heap = new ArrayList<>();
    private int slip = 0;
    private int price = 3;
    private int cost = 0;
    private int minutes = 0;
    private int distributed = 0;
    private final List<Integer> text = new ArrayList<>();
    private final Deque<PlainModel> saved = new ArrayDeque<>();

    PlainModel() {
        for (int letter = 0; letter < 27; letter++) {
            boxes.add(new ArrayList<>());
        }
        for (int forme = 0; forme < 3; forme++) {
            formes.add(new ArrayList<>());
        }
    }

    private void become(PlainModel other) {
        boxes = new ArrayList<>();
        other.boxes.forEach(box -> boxes.add(new ArrayList<>(box)));
        formes = new ArrayList<>();
        for (List<List<Place>> forme : other.formes) {
            List<List<Place>> lines = new ArrayList<>();
            forme.forEach(line -> lines.add(new ArrayList<>(line)));
            formes.add(lines);
        }
        heap = new ArrayList<>(other.heap);
        slip = other.slip;
        price = other.price;
        cost = other.cost;
        minutes = other.minutes;
        distributed = other.distributed;
    }

    private PlainModel copy() {
        PlainModel copy = new PlainModel();
        copy.become(this);
        copy.text.addAll(text);
        return copy;
    }

    private void save() {
        saved.addLast(copy());
        if (saved.size() > 4) {
            saved.removeFirst();
        }
    }

    /** Plays a call: its name and its arguments. */
    Object play(String call, int... a) {
        return switch (call) {
            case "buy" -> buy(a[0], a[1]);
            case "buyLacking" -> buyLacking();
            case "spill" -> spill(a[0], a[1], a[2]);
            case "clean" -> clean(a[0]);
            case "set" -> set(a[0], a[1]);
            case "letter" -> letter(a[0], a[1]);
            case "inBox" -> inBox(a[0], a[1]);
            case "value" -> value(a[0]);
            case "setLine" -> setLine(a[0]);
            case "correct" -> correct(a[0]);
            case "distribute" -> distribute(a[0]);
            case "pie" -> pie(a[0]);
            case "sortHeap" -> sortHeap(a[0]);
            case "forme" -> forme(a[0], a[1]);
            case "places" -> places(a[0], a[1]);
            case "place" -> place(a[0], a[1], a[2], a[3]);
            case "proof" -> proof(a[0], a[1]);
            case "inHeap" -> inHeap(a[0]);
            case "errorsIfSet" -> countIfSet(true);
            case "turnedIfSet" -> countIfSet(false);
            case "copies" -> copies();
            case "bestToDistribute" -> bestToDistribute();
            case "order" -> order();
            case "append" -> append(a[0]);
            case "clearText" -> clearText();
            case "undo" -> undo();
            case "digest" -> digest();
            default -> throw new AssertionError(call);
        };
    }

    private static boolean in(int number, int least, int most) {
        return least <= number && number <= most;
    }

    private static int width(int letter) {
        char sign = (char) ('a' + letter);
        return letter == 26 ? 3 : THIN.indexOf(sign) >= 0 ? 0 : WIDE.indexOf(sign) >= 0 ? 2 : 1;
    }

    private static long count(List<Integer> sorts, int letter) {
        return sorts.stream().filter(sort -> sort == letter).count();
    }

    private static int pop(List<Integer> sorts) {
        return sorts.remove(sorts.size() - 1);
    }

    private void home(int sort) {
        boxes.get(sort).add(sort);
    }

    private List<Place> placesOf(int forme) {
        List<Place> places = new ArrayList<>();
        formes.get(forme).forEach(places::addAll);
        return places;
    }

    private List<Place> allPlaces() {
        List<Place> places = new ArrayList<>();
        for (int forme = 0; forme < 3; forme++) {
            places.addAll(placesOf(forme));
        }
        return places;
    }

    private int sortsInBoxes() {
        return boxes.stream().mapToInt(List::size).sum();
    }

    private int sorts() {
        return sortsInBoxes() + allPlaces().size() + heap.size();
    }

    private int lacking(int letter) {
        return (int) Math.max(0, count(text, letter) - count(boxes.get(letter), letter));
    }

    private Object buy(int letter, int many) {
        if (!in(letter, 0, 26)) {
            return NO_INDEX;
        }
        if (!in(many, 1, 30)) {
            return BAD_ARGUMENT;
        }
        if (sorts() + many > 250) {
            return BAD_STATE;
        }
        save();
        for (int i = 0; i < many; i++) {
            home(letter);
            cost += price;
        }
        return boxes.get(letter).size();
    }

    private Object buyLacking() {
        List<Integer> bought = new ArrayList<>();
        for (int letter = 0; letter < 27; letter++) {
            for (int i = lacking(letter); i > 0; i--) {
                bought.add(letter);
            }
        }
        if (sorts() + bought.size() > 250) {
            return BAD_STATE;
        }
        save();
        bought.forEach(this::home);
        cost += price * bought.size();
        return bought.size();
    }

    private Object spill(int from, int to, int many) {
        if (!in(from, 0, 26) || !in(to, 0, 26)) {
            return NO_INDEX;
        }
        if (from == to || !in(many, 1, 30)) {
            return BAD_ARGUMENT;
        }
        if (boxes.get(from).size() < many) {
            return BAD_STATE;
        }
        save();
        for (int i = 0; i < many; i++) {
            boxes.get(to).add(pop(boxes.get(from)));
        }
        return boxes.get(from).size();
    }

    private Object clean(int letter) {
        if (!in(letter, 0, 26)) {
            return NO_INDEX;
        }
        save();
        List<Integer> old = new ArrayList<>(boxes.get(letter));
        boxes.get(letter).clear();
        old.forEach(this::home);
        int moved = old.size() - (int) count(old, letter);
        minutes += 2 * moved;
        return moved;
    }

    private Object set(int newSlip, int newPrice) {
        if (newSlip != 0 && !in(newSlip, 2, 50) || !in(newPrice, 0, 99)) {
            return BAD_ARGUMENT;
        }
        save();
        int old = slip;
        slip = newSlip;
        price = newPrice;
        return old;
    }

    private Object letter(int letter, int what) {
        if (!in(letter, 0, 26)) {
            return NO_INDEX;
        }
        List<Integer> box = boxes.get(letter);
        return switch (what) {
            case 0 -> box.size();
            case 1 -> (int) box.stream().filter(sort -> sort != letter).count();
            case 2 -> (int) boxes.stream().mapToLong(other -> count(other, letter)).sum();
            case 3 -> (int) allPlaces().stream().filter(place -> place.sort == letter).count();
            case 4 -> (int) count(heap, letter);
            case 5 -> width(letter);
            case 6 -> box.isEmpty() ? -1 : box.get(box.size() - 1);
            case 7 -> lacking(letter);
            default -> BAD_ARGUMENT;
        };
    }

    private Object inBox(int letter, int index) {
        if (!in(letter, 0, 26) || !in(index, 0, boxes.get(letter).size() - 1)) {
            return NO_INDEX;
        }
        return boxes.get(letter).get(boxes.get(letter).size() - 1 - index);
    }

    private int foul() {
        int foul = 0;
        for (int letter = 0; letter < 27; letter++) {
            foul += boxes.get(letter).size() - (int) count(boxes.get(letter), letter);
        }
        return foul;
    }

    private Object value(int what) {
        return switch (what) {
            case 0 -> sortsInBoxes();
            case 1 -> allPlaces().size();
            case 2 -> heap.size();
            case 3 -> sorts();
            case 4 -> slip;
            case 5 -> price;
            case 6 -> cost;
            case 7 -> minutes;
            case 8 -> distributed;
            case 9 -> foul();
            case 10 -> (int) allPlaces().stream().filter(Place::wrong).count();
            case 11 -> (int) allPlaces().stream().filter(Place::turned).count();
            default -> BAD_ARGUMENT;
        };
    }

    /** The text as a line taken out of the boxes; null if it cannot be set. */
    private List<Place> take() {
        List<Place> line = new ArrayList<>();
        for (int letter : text) {
            if (!boxes.get(letter).isEmpty()) {
                line.add(new Place(letter, pop(boxes.get(letter)), false));
                continue;
            }
            int lender = -1;
            for (int other = 26; other >= 0 && letter != 26; other--) {
                boolean lends = width(other) == width(letter) && !boxes.get(other).isEmpty();
                if (lends && (lender < 0 || boxes.get(other).size() >= boxes.get(lender).size())) {
                    lender = other;
                }
            }
            if (lender < 0) {
                return null;
            }
            line.add(new Place(letter, pop(boxes.get(lender)), true));
        }
        return line.isEmpty() ? null : line;
    }

    private Object setLine(int forme) {
        if (!in(forme, 0, 2)) {
            return NO_INDEX;
        }
        if (formes.get(forme).size() == 5 || copy().take() == null) {
            return BAD_STATE;
        }
        save();
        formes.get(forme).add(take());
        minutes += text.size();
        return formes.get(forme).size() - 1;
    }

    private Object correct(int forme) {
        if (!in(forme, 0, 2)) {
            return NO_INDEX;
        }
        save();
        int corrected = 0;
        for (List<Place> line : formes.get(forme)) {
            for (int i = 0; i < line.size(); i++) {
                Place old = line.get(i);
                int found = boxes.get(old.wanted).lastIndexOf(old.wanted);
                if (old.wrong() && found >= 0) {
                    boxes.get(old.wanted).remove(found);
                    line.set(i, new Place(old.wanted, old.wanted, false));
                    home(old.sort);
                    corrected++;
                    minutes += 3;
                }
            }
        }
        return corrected;
    }

    private Object distribute(int forme) {
        if (!in(forme, 0, 2)) {
            return NO_INDEX;
        }
        save();
        List<Place> places = placesOf(forme);
        for (Place place : places) {
            distributed++;
            minutes++;
            boolean slips = slip != 0 && distributed % slip == 0;
            int box = !slips ? place.sort : place.sort == 26 ? 0 : place.sort + 1;
            boxes.get(box).add(place.sort);
        }
        formes.get(forme).clear();
        return places.size();
    }

    private Object pie(int forme) {
        if (!in(forme, 0, 2)) {
            return NO_INDEX;
        }
        save();
        placesOf(forme).forEach(place -> heap.add(place.sort));
        formes.get(forme).clear();
        return heap.size();
    }

    private Object sortHeap(int many) {
        if (!in(many, 1, 99)) {
            return BAD_ARGUMENT;
        }
        save();
        int sorted = 0;
        while (sorted < many && !heap.isEmpty()) {
            home(heap.remove(0));
            sorted++;
            minutes++;
        }
        return sorted;
    }

    private Object forme(int forme, int what) {
        if (!in(forme, 0, 2)) {
            return NO_INDEX;
        }
        return switch (what) {
            case 0 -> formes.get(forme).size();
            case 1 -> placesOf(forme).size();
            case 2 -> (int) placesOf(forme).stream().filter(Place::wrong).count();
            case 3 -> (int) placesOf(forme).stream().filter(Place::turned).count();
            case 4 -> copy().correct(forme);
            default -> BAD_ARGUMENT;
        };
    }

    private Object places(int forme, int line) {
        if (!in(forme, 0, 2) || !in(line, 0, formes.get(forme).size() - 1)) {
            return NO_INDEX;
        }
        return formes.get(forme).get(line).size();
    }

    private Object place(int forme, int line, int place, int what) {
        if (!(places(forme, line) instanceof Integer length) || !in(place, 0, length - 1)) {
            return NO_INDEX;
        }
        Place asked = formes.get(forme).get(line).get(place);
        return switch (what) {
            case 0 -> asked.wanted;
            case 1 -> asked.sort;
            case 2 -> asked.turned ? 1 : 0;
            case 3 -> asked.wrong() ? 1 : 0;
            default -> BAD_ARGUMENT;
        };
    }

    private Object proof(int forme, int index) {
        if (!in(forme, 0, 2) || index < 0) {
            return NO_INDEX;
        }
        List<Integer> errors = new ArrayList<>();
        for (int line = 0; line < formes.get(forme).size(); line++) {
            for (int place = 0; place < formes.get(forme).get(line).size(); place++) {
                if (formes.get(forme).get(line).get(place).wrong()) {
                    errors.add(100 * line + place);
                }
            }
        }
        return index < errors.size() ? errors.get(index) : -1;
    }

    private Object inHeap(int index) {
        return in(index, 0, heap.size() - 1) ? heap.get(index) : NO_INDEX;
    }

    private int countIfSet(boolean errors) {
        List<Place> line = copy().take();
        if (line == null) {
            return -1;
        }
        return (int) line.stream().filter(place -> errors ? place.wrong() : place.turned).count();
    }

    private int copies() {
        if (text.isEmpty()) {
            return -1;
        }
        PlainModel copy = copy();
        int count = 0;
        List<Place> line = copy.take();
        while (line != null && line.stream().noneMatch(Place::wrong)) {
            count++;
            line = copy.take();
        }
        return count;
    }

    private int bestToDistribute() {
        int[] errors = new int[3];
        for (int forme = 0; forme < 3; forme++) {
            PlainModel copy = copy();
            copy.distribute(forme);
            errors[forme] = copy.countIfSet(true);
        }
        int fewest = Arrays.stream(errors).filter(count -> count >= 0).min().orElse(-1);
        for (int forme = 0; forme < 3 && fewest >= 0; forme++) {
            if (errors[forme] == fewest) {
                return forme;
            }
        }
        return -1;
    }

    private double order() {
        return sortsInBoxes() == 0 ? 1.0 : (double) (sortsInBoxes() - foul()) / (double) sortsInBoxes();
    }

    private Object append(int value) {
        if (!in(value, 'a', 'z') && value != 32) {
            return BAD_ARGUMENT;
        }
        if (text.size() == 16) {
            return BAD_STATE;
        }
        text.add(value == 32 ? 26 : value - 97);
        return text.size();
    }

    private int clearText() {
        int length = text.size();
        text.clear();
        return length;
    }

    private Object undo() {
        if (saved.isEmpty()) {
            return BAD_STATE;
        }
        become(saved.removeLast());
        return saved.size();
    }

    private long digest() {
        List<Object> parts = new ArrayList<>();
        parts.add(text.size());
        parts.addAll(text);
        for (int what = 0; what < 12; what++) {
            parts.add(value(what));
        }
        for (int letter = 0; letter < 27; letter++) {
            for (int what = 0; what < 8; what++) {
                parts.add(letter(letter, what));
            }
            parts.addAll(boxes.get(letter));
        }
        for (int forme = 0; forme < 3; forme++) {
            for (int what = 0; what < 5; what++) {
                parts.add(forme(forme, what));
            }
            for (List<Place> line : formes.get(forme)) {
                parts.add(line.size());
                for (Place place : line) {
                    parts.addAll(List.of(place.wanted, place.sort, place.turned ? 1 : 0, place.wrong() ? 1 : 0));
                }
            }
        }
        parts.addAll(heap);
        parts.add(saved.size());
        long hash = 3449;
        for (Object part : parts) {
            hash = 31 * hash + (Integer) part;
        }
        return hash;
    }
}
