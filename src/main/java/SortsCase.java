/** A compositor's case of type, with the formes that are set from it and the heap of pied type. */
public final class SortsCase {
    public static final int NONE = -1;

    private static final int LETTERS = 27;
    private static final int SPACE = 26;
    private static final int FORMES = 3;
    private static final int MOST_LINES = 5;
    private static final int MOST_PLACES = 16;
    private static final int MOST_SORTS = 250;
    private static final int MOST_SAVED = 4;
    private static final int MOST_MOVED = 30;
    private static final int MOST_FROM_HEAP = 99;
    private static final int LEAST_SLIP = 2;
    private static final int MOST_SLIP = 50;
    private static final int MOST_PRICE = 99;
    private static final int FIRST_PRICE = 3;
    private static final int MINUTES_TO_CORRECT = 3;
    private static final int MINUTES_TO_CLEAN = 2;
    private static final int LAST_LETTER_WHAT = 7;
    private static final int LAST_VALUE_WHAT = 11;
    private static final int LAST_FORME_WHAT = 4;
    private static final int LAST_PLACE_WHAT = 3;
    private static final long FIRST_HASH = 3449;

    /** 0 thin, 1 normal, 2 wide, 3 the space: from "a" to "z", then the space. */
    private static final int[] WIDTHS = {
        1, 1, 1, 1, 1, 0, 1, 1, 0, 0, 1, 0, 2, 1, 1, 1, 1, 1, 1, 0, 1, 1, 2, 1, 1, 1, 3
    };

    private final Shop shop;
    private final Row text;
    private final History history;

    // What-if questions are played through on these two, so that no call makes new objects.
    private final Shop trialShop;
    private final Forme trialForme;

    public SortsCase() {
        shop = new Shop();
        text = new Row(MOST_PLACES);
        history = new History();
        trialShop = new Shop();
        trialForme = new Forme();
    }

    // ---- case

    public int buy(int letter, int many)
            throws IndexOutOfBoundsException, IllegalArgumentException, IllegalStateException {
        requireLetter(letter);
        requireRange(many, 1, MOST_MOVED);
        requireRoomFor(many);
        history.save(shop);
        shop.buySorts(letter, many);
        return shop.boxOf(letter).size();
    }

    public int buyLacking() throws IllegalStateException {
        int many = 0;
        for (int letter = 0; letter < LETTERS; letter++) {
            many += lackingOf(letter);
        }
        requireRoomFor(many);
        history.save(shop);
        for (int letter = 0; letter < LETTERS; letter++) {
            shop.buySorts(letter, lackingOf(letter));
        }
        return many;
    }

    public int spill(int from, int to, int many)
            throws IndexOutOfBoundsException, IllegalArgumentException, IllegalStateException {
        requireLetter(from);
        requireLetter(to);
        if (from == to) {
            throw new IllegalArgumentException("the boxes are the same");
        }
        requireRange(many, 1, MOST_MOVED);
        if (shop.boxOf(from).size() < many) {
            throw new IllegalStateException("the box has fewer sorts");
        }
        history.save(shop);
        shop.spillSorts(from, to, many);
        return shop.boxOf(from).size();
    }

    public int clean(int letter) throws IndexOutOfBoundsException {
        requireLetter(letter);
        history.save(shop);
        return shop.cleanBox(letter);
    }

    public int set(int slip, int price) throws IllegalArgumentException {
        if (slip != 0) {
            requireRange(slip, LEAST_SLIP, MOST_SLIP);
        }
        requireRange(price, 0, MOST_PRICE);
        history.save(shop);
        int previous = shop.slip;
        shop.slip = slip;
        shop.price = price;
        return previous;
    }

    public int letter(int letter, int what) throws IndexOutOfBoundsException, IllegalArgumentException {
        requireLetter(letter);
        requireRange(what, 0, LAST_LETTER_WHAT);
        return aboutLetter(letter, what);
    }

    public int inBox(int letter, int index) throws IndexOutOfBoundsException {
        requireLetter(letter);
        Row box = shop.boxOf(letter);
        requireIndex(index, box.size());
        return box.at(box.size() - 1 - index);
    }

    public int value(int what) throws IllegalArgumentException {
        requireRange(what, 0, LAST_VALUE_WHAT);
        return shop.number(what);
    }

    // ---- formes

    public int setLine(int forme) throws IndexOutOfBoundsException, IllegalStateException {
        requireForme(forme);
        Forme target = shop.formeOf(forme);
        if (text.size() == 0 || target.lines() >= MOST_LINES || !settingGoes()) {
            throw new IllegalStateException("the line cannot be set");
        }
        history.save(shop);
        shop.setText(text, target);
        return target.lines() - 1;
    }

    public int correct(int forme) throws IndexOutOfBoundsException {
        requireForme(forme);
        history.save(shop);
        return shop.correctForme(shop.formeOf(forme));
    }

    public int distribute(int forme) throws IndexOutOfBoundsException {
        requireForme(forme);
        history.save(shop);
        return shop.distributeForme(shop.formeOf(forme));
    }

    public int pie(int forme) throws IndexOutOfBoundsException {
        requireForme(forme);
        history.save(shop);
        shop.pieForme(shop.formeOf(forme));
        return shop.heap.size();
    }

    public int sortHeap(int many) throws IllegalArgumentException {
        requireRange(many, 1, MOST_FROM_HEAP);
        history.save(shop);
        return shop.sortFromHeap(many);
    }

    public int forme(int forme, int what) throws IndexOutOfBoundsException, IllegalArgumentException {
        requireForme(forme);
        requireRange(what, 0, LAST_FORME_WHAT);
        return aboutForme(forme, what);
    }

    public int places(int forme, int line) throws IndexOutOfBoundsException {
        requireForme(forme);
        Forme asked = shop.formeOf(forme);
        requireIndex(line, asked.lines());
        return asked.lengthOf(line);
    }

    public int place(int forme, int line, int place, int what)
            throws IndexOutOfBoundsException, IllegalArgumentException {
        requireForme(forme);
        Forme asked = shop.formeOf(forme);
        requireIndex(line, asked.lines());
        requireIndex(place, asked.lengthOf(line));
        requireRange(what, 0, LAST_PLACE_WHAT);
        return asked.about(asked.startOf(line) + place, what);
    }

    public int proof(int forme, int index) throws IndexOutOfBoundsException {
        requireForme(forme);
        if (index < 0) {
            throw new IndexOutOfBoundsException("the index is negative");
        }
        return shop.formeOf(forme).errorAt(index);
    }

    public int inHeap(int index) throws IndexOutOfBoundsException {
        requireIndex(index, shop.heap.size());
        return shop.heap.at(index);
    }

    // ---- what if

    public int errorsIfSet() {
        return settingGoes() ? trialForme.errors() : NONE;
    }

    public int turnedIfSet() {
        return settingGoes() ? trialForme.turnedSorts() : NONE;
    }

    public int copies() {
        if (text.size() == 0) {
            return NONE;
        }
        trialShop.copyFrom(shop);
        // Each copy takes a sort at least, so that there cannot be more copies than sorts.
        int done = 0;
        while (done < MOST_SORTS && trialGoes() && trialForme.errors() == 0) {
            done++;
        }
        return done;
    }

    public int bestToDistribute() {
        int best = NONE;
        int fewest = MOST_PLACES + 1;
        for (int forme = 0; forme < FORMES; forme++) {
            trialShop.copyFrom(shop);
            trialShop.distributeForme(trialShop.formeOf(forme));
            if (trialGoes() && trialForme.errors() < fewest) {
                best = forme;
                fewest = trialForme.errors();
            }
        }
        return best;
    }

    public double order() {
        int all = shop.sortsInBoxes();
        if (all == 0) {
            return 1.0;
        }
        return (double) (all - shop.foulSorts()) / (double) all;
    }

    // ---- text

    public int append(int value) throws IllegalArgumentException, IllegalStateException {
        if (value != ' ' && (value < 'a' || value > 'z')) {
            throw new IllegalArgumentException("neither a letter nor a space");
        }
        if (text.size() >= MOST_PLACES) {
            throw new IllegalStateException("the text is full");
        }
        text.put(value == ' ' ? SPACE : value - 'a');
        return text.size();
    }

    public int clearText() {
        int length = text.size();
        text.clear();
        return length;
    }

    // ---- state

    public int undo() throws IllegalStateException {
        if (history.size() == 0) {
            throw new IllegalStateException("there is no saved state");
        }
        history.restore(shop);
        return history.size();
    }

    public long digest() {
        long hash = mixed(FIRST_HASH, text.size());
        hash = text.mixedInto(hash);
        for (int what = 0; what <= LAST_VALUE_WHAT; what++) {
            hash = mixed(hash, shop.number(what));
        }
        for (int letter = 0; letter < LETTERS; letter++) {
            for (int what = 0; what <= LAST_LETTER_WHAT; what++) {
                hash = mixed(hash, aboutLetter(letter, what));
            }
            hash = shop.boxOf(letter).mixedInto(hash);
        }
        for (int forme = 0; forme < FORMES; forme++) {
            for (int what = 0; what <= LAST_FORME_WHAT; what++) {
                hash = mixed(hash, aboutForme(forme, what));
            }
            hash = shop.formeOf(forme).mixedInto(hash);
        }
        hash = shop.heap.mixedInto(hash);
        return mixed(hash, history.size());
    }

    // ---- answers that several calls share

    private int aboutLetter(int letter, int what) {
        Row box = shop.boxOf(letter);
        switch (what) {
            case 0:
                return box.size();
            case 1:
                return box.size() - box.countOf(letter);
            case 2:
                return shop.countInBoxes(letter);
            case 3:
                return shop.countInFormes(letter);
            case 4:
                return shop.heap.countOf(letter);
            case 5:
                return widthOf(letter);
            case 6:
                return box.at(box.size() - 1);
            default:
                return lackingOf(letter);
        }
    }

    private int aboutForme(int forme, int what) {
        Forme asked = shop.formeOf(forme);
        switch (what) {
            case 0:
                return asked.lines();
            case 1:
                return asked.size();
            case 2:
                return asked.errors();
            case 3:
                return asked.turnedSorts();
            default:
                trialShop.copyFrom(shop);
                return trialShop.correctForme(trialShop.formeOf(forme));
        }
    }

    private int lackingOf(int letter) {
        return Math.max(0, text.countOf(letter) - shop.boxOf(letter).countOf(letter));
    }

    /** Whether the text could be set now; if so, it stands in the trial forme then. */
    private boolean settingGoes() {
        trialShop.copyFrom(shop);
        return trialGoes();
    }

    /** Whether the text could be set from the trial shop as it is; if so, it is taken out of its boxes. */
    private boolean trialGoes() {
        trialForme.clear();
        return text.size() > 0 && trialShop.setText(text, trialForme);
    }

    // ---- tests of arguments

    private static void requireLetter(int letter) throws IndexOutOfBoundsException {
        requireIndex(letter, LETTERS);
    }

    private static void requireForme(int forme) throws IndexOutOfBoundsException {
        requireIndex(forme, FORMES);
    }

    private static void requireIndex(int index, int size) throws IndexOutOfBoundsException {
        if (index < 0 || index >= size) {
            throw new IndexOutOfBoundsException("there is no such thing");
        }
    }

    private static void requireRange(int number, int least, int most) throws IllegalArgumentException {
        if (number < least || number > most) {
            throw new IllegalArgumentException("out of range");
        }
    }

    private void requireRoomFor(int many) throws IllegalStateException {
        if (shop.allSorts() + many > MOST_SORTS) {
            throw new IllegalStateException("there would be too many sorts");
        }
    }

    private static int widthOf(int letter) {
        return letter >= 0 && letter < WIDTHS.length ? WIDTHS[letter] : NONE;
    }

    private static long mixed(long hash, long number) {
        return 31 * hash + number;
    }

    /** A row of letters that does not grow beyond its capacity: a box (from the bottom), the heap, the text. */
    private static final class Row {
        private final int[] letters;
        private int size;

        Row(int capacity) {
            letters = new int[Math.max(0, capacity)];
        }

        int size() {
            return size;
        }

        int at(int index) {
            return index >= 0 && index < size && index < letters.length ? letters[index] : NONE;
        }

        void put(int letter) {
            if (size >= 0 && size < letters.length) {
                letters[size] = letter;
                size++;
            }
        }

        int takeAt(int index) {
            int taken = at(index);
            if (taken != NONE) {
                System.arraycopy(letters, index + 1, letters, index, size - 1 - index);
                size--;
            }
            return taken;
        }

        int takeLast() {
            return takeAt(size - 1);
        }

        void dropFirst(int many) {
            if (many >= 0 && many <= size) {
                System.arraycopy(letters, many, letters, 0, size - many);
                size -= many;
            }
        }

        void clear() {
            size = 0;
        }

        int countOf(int letter) {
            int count = 0;
            for (int index = 0; index < size; index++) {
                if (at(index) == letter) {
                    count++;
                }
            }
            return count;
        }

        int lastIndexOf(int letter) {
            for (int index = size - 1; index >= 0; index--) {
                if (at(index) == letter) {
                    return index;
                }
            }
            return NONE;
        }

        long mixedInto(long hash) {
            long mix = hash;
            for (int index = 0; index < size; index++) {
                mix = mixed(mix, at(index));
            }
            return mix;
        }

        void copyFrom(Row other) {
            size = Math.min(other.size, letters.length);
            System.arraycopy(other.letters, 0, letters, 0, size);
        }
    }

    /**
     * A forme. Lines are only added behind the others and go all at once, so that the places of all lines stand
     * in one row, in the order in which they are gone through.
     */
    private static final class Forme {
        private final int[] wanted = new int[MOST_LINES * MOST_PLACES];
        private final int[] sorts = new int[MOST_LINES * MOST_PLACES];
        private final int[] turned = new int[MOST_LINES * MOST_PLACES];
        private final int[] lineEnds = new int[MOST_LINES];
        private int size;
        private int lines;

        int size() {
            return size;
        }

        int lines() {
            return lines;
        }

        int startOf(int line) {
            return line >= 1 && line <= lineEnds.length ? lineEnds[line - 1] : 0;
        }

        int lengthOf(int line) {
            return line >= 0 && line < lines ? startOf(line + 1) - startOf(line) : 0;
        }

        int sortAt(int index) {
            return index >= 0 && index < sorts.length ? sorts[index] : NONE;
        }

        int wantedAt(int index) {
            return index >= 0 && index < wanted.length ? wanted[index] : NONE;
        }

        boolean turnedAt(int index) {
            return index >= 0 && index < turned.length && turned[index] == 1;
        }

        boolean wrongAt(int index) {
            return turnedAt(index) || sortAt(index) != wantedAt(index);
        }

        int about(int index, int what) {
            switch (what) {
                case 0:
                    return wantedAt(index);
                case 1:
                    return sortAt(index);
                case 2:
                    return turnedAt(index) ? 1 : 0;
                default:
                    return wrongAt(index) ? 1 : 0;
            }
        }

        void add(int letter, int sort, boolean upsideDown) {
            if (size >= 0 && size < sorts.length) {
                wanted[size] = letter;
                sorts[size] = sort;
                turned[size] = upsideDown ? 1 : 0;
                size++;
            }
        }

        void endLine() {
            if (lines >= 0 && lines < lineEnds.length) {
                lineEnds[lines] = size;
                lines++;
            }
        }

        void putRight(int index) {
            if (index >= 0 && index < sorts.length) {
                sorts[index] = wanted[index];
                turned[index] = 0;
            }
        }

        void clear() {
            size = 0;
            lines = 0;
        }

        int errors() {
            int count = 0;
            for (int index = 0; index < size; index++) {
                if (wrongAt(index)) {
                    count++;
                }
            }
            return count;
        }

        int turnedSorts() {
            int count = 0;
            for (int index = 0; index < size; index++) {
                if (turnedAt(index)) {
                    count++;
                }
            }
            return count;
        }

        int countOf(int letter) {
            int count = 0;
            for (int index = 0; index < size; index++) {
                if (sortAt(index) == letter) {
                    count++;
                }
            }
            return count;
        }

        /** The error of this number (from 0) as 100 * line + place, or NONE. */
        int errorAt(int number) {
            int before = 0;
            for (int line = 0; line < lines; line++) {
                int length = lengthOf(line);
                for (int place = 0; place < length; place++) {
                    if (wrongAt(startOf(line) + place)) {
                        if (before == number) {
                            return 100 * line + place;
                        }
                        before++;
                    }
                }
            }
            return NONE;
        }

        long mixedInto(long hash) {
            long mix = hash;
            for (int line = 0; line < lines; line++) {
                int length = lengthOf(line);
                mix = mixed(mix, length);
                for (int place = 0; place < length; place++) {
                    for (int what = 0; what <= LAST_PLACE_WHAT; what++) {
                        mix = mixed(mix, about(startOf(line) + place, what));
                    }
                }
            }
            return mix;
        }

        void copyFrom(Forme other) {
            size = Math.min(other.size, sorts.length);
            lines = Math.min(other.lines, lineEnds.length);
            System.arraycopy(other.wanted, 0, wanted, 0, size);
            System.arraycopy(other.sorts, 0, sorts, 0, size);
            System.arraycopy(other.turned, 0, turned, 0, size);
            System.arraycopy(other.lineEnds, 0, lineEnds, 0, lines);
        }
    }

    /** All that a saved state contains: boxes, formes, heap, slip, price and the counts of work and money. */
    private static final class Shop {
        private final Row[] boxes = new Row[LETTERS];
        private final Forme[] formes = new Forme[FORMES];
        private final Row heap = new Row(MOST_SORTS);
        private int slip;
        private int price = FIRST_PRICE;
        private int cost;
        private int minutes;
        private int distributed;

        Shop() {
            for (int letter = 0; letter < LETTERS; letter++) {
                boxes[letter] = new Row(MOST_SORTS);
            }
            for (int forme = 0; forme < FORMES; forme++) {
                formes[forme] = new Forme();
            }
        }

        /** The box of a letter; the letters go round, so that behind the space comes "a" again. */
        Row boxOf(int letter) {
            return boxes[Math.floorMod(letter, LETTERS)];
        }

        Forme formeOf(int forme) {
            return formes[Math.floorMod(forme, FORMES)];
        }

        void putBack(int sort) {
            boxOf(sort).put(sort);
        }

        void buySorts(int letter, int many) {
            for (int count = 0; count < many; count++) {
                putBack(letter);
            }
            cost += price * many;
        }

        void spillSorts(int from, int to, int many) {
            for (int count = 0; count < many; count++) {
                boxOf(to).put(boxOf(from).takeLast());
            }
        }

        int cleanBox(int letter) {
            Row box = boxOf(letter);
            int height = box.size();
            int kept = 0;
            for (int count = 0; count < height; count++) {
                if (box.at(kept) == letter) {
                    kept++;
                } else {
                    putBack(box.takeAt(kept));
                }
            }
            minutes += MINUTES_TO_CLEAN * (height - kept);
            return height - kept;
        }

        /** Sets the text as a line; if that can't be, it answers false and leaves boxes and forme half done. */
        boolean setText(Row text, Forme forme) {
            for (int index = 0; index < text.size(); index++) {
                int letter = text.at(index);
                boolean borrowed = boxOf(letter).size() == 0;
                Row source = borrowed ? lenderFor(letter) : boxOf(letter);
                if (source.size() == 0) {
                    return false;
                }
                forme.add(letter, source.takeLast(), borrowed);
            }
            forme.endLine();
            minutes += text.size();
            return true;
        }

        /** The fullest box of the letter's width; the space is alone in its width and finds but its own box. */
        Row lenderFor(int letter) {
            Row fullest = boxOf(letter);
            for (int other = 0; other < LETTERS; other++) {
                if (widthOf(other) == widthOf(letter) && boxOf(other).size() > fullest.size()) {
                    fullest = boxOf(other);
                }
            }
            return fullest;
        }

        int correctForme(Forme forme) {
            int corrected = 0;
            for (int index = 0; index < forme.size(); index++) {
                if (forme.wrongAt(index) && correctPlace(forme, index)) {
                    corrected++;
                }
            }
            minutes += MINUTES_TO_CORRECT * corrected;
            return corrected;
        }

        boolean correctPlace(Forme forme, int index) {
            int letter = forme.wantedAt(index);
            int old = forme.sortAt(index);
            Row box = boxOf(letter);
            int found = box.lastIndexOf(letter);
            if (found == NONE) {
                return false;
            }
            box.takeAt(found);
            forme.putRight(index);
            putBack(old);
            return true;
        }

        int distributeForme(Forme forme) {
            int many = forme.size();
            for (int index = 0; index < many; index++) {
                int sort = forme.sortAt(index);
                distributed++;
                boxOf(slips(distributed) ? sort + 1 : sort).put(sort);
            }
            minutes += many;
            forme.clear();
            return many;
        }

        boolean slips(int number) {
            return slip > 0 && number % slip == 0;
        }

        void pieForme(Forme forme) {
            for (int index = 0; index < forme.size(); index++) {
                heap.put(forme.sortAt(index));
            }
            forme.clear();
        }

        int sortFromHeap(int most) {
            int many = Math.min(most, heap.size());
            for (int index = 0; index < many; index++) {
                putBack(heap.at(index));
            }
            heap.dropFirst(many);
            minutes += many;
            return many;
        }

        int number(int what) {
            switch (what) {
                case 0:
                    return sortsInBoxes();
                case 1:
                    return sortsInFormes();
                case 2:
                    return heap.size();
                case 3:
                    return allSorts();
                case 4:
                    return slip;
                case 5:
                    return price;
                case 6:
                    return cost;
                case 7:
                    return minutes;
                case 8:
                    return distributed;
                case 9:
                    return foulSorts();
                case 10:
                    return errorsInFormes();
                default:
                    return turnedInFormes();
            }
        }

        int allSorts() {
            return sortsInBoxes() + sortsInFormes() + heap.size();
        }

        int sortsInBoxes() {
            int count = 0;
            for (Row box : boxes) {
                count += box.size();
            }
            return count;
        }

        int foulSorts() {
            int count = 0;
            for (int letter = 0; letter < LETTERS; letter++) {
                count += boxOf(letter).size() - boxOf(letter).countOf(letter);
            }
            return count;
        }

        int countInBoxes(int letter) {
            int count = 0;
            for (Row box : boxes) {
                count += box.countOf(letter);
            }
            return count;
        }

        int sortsInFormes() {
            int count = 0;
            for (Forme forme : formes) {
                count += forme.size();
            }
            return count;
        }

        int countInFormes(int letter) {
            int count = 0;
            for (Forme forme : formes) {
                count += forme.countOf(letter);
            }
            return count;
        }

        int errorsInFormes() {
            int count = 0;
            for (Forme forme : formes) {
                count += forme.errors();
            }
            return count;
        }

        int turnedInFormes() {
            int count = 0;
            for (Forme forme : formes) {
                count += forme.turnedSorts();
            }
            return count;
        }

        void copyFrom(Shop other) {
            for (int letter = 0; letter < LETTERS; letter++) {
                boxOf(letter).copyFrom(other.boxOf(letter));
            }
            for (int forme = 0; forme < FORMES; forme++) {
                formeOf(forme).copyFrom(other.formeOf(forme));
            }
            heap.copyFrom(other.heap);
            slip = other.slip;
            price = other.price;
            cost = other.cost;
            minutes = other.minutes;
            distributed = other.distributed;
        }
    }

    /** The saved states, the oldest first; the shops that hold them are made once and used again. */
    private static final class History {
        private final Shop[] saved = new Shop[MOST_SAVED];
        private int size;

        History() {
            for (int index = 0; index < MOST_SAVED; index++) {
                saved[index] = new Shop();
            }
        }

        int size() {
            return size;
        }

        void save(Shop shop) {
            if (size >= MOST_SAVED) {
                dropOldest();
            }
            if (size >= 0 && size < saved.length) {
                saved[size].copyFrom(shop);
                size++;
            }
        }

        void restore(Shop shop) {
            if (size >= 1 && size <= saved.length) {
                size--;
                shop.copyFrom(saved[size]);
            }
        }

        private void dropOldest() {
            Shop oldest = saved[0];
            for (int index = 1; index < MOST_SAVED; index++) {
                saved[index - 1] = saved[index];
            }
            saved[MOST_SAVED - 1] = oldest;
            size--;
        }
    }
}
