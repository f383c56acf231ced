import java.util.Arrays;

/**
 * Signatures of books, gathered into a block by collating marks that step down the spine.
 * The document of the project tells what each call promises.
 */
public final class SteppedSpines {
    /** There is nothing to return. */
    public static final int NONE = -1;

    private static final int BINS = 16;
    private static final int FIRST_COPIES = 2;
    private static final int MOST_COPIES = 99;
    private static final int MOST_PRINTED_AT_ONCE = 20;
    private static final int MOST_SHEETS = 20;
    private static final int HOLES = 5;
    private static final int ALL_HOLES = 31;
    private static final int MOST_SAVED = 6;
    private static final int MOST_CHARACTERS = 60;
    private static final int LEAST_CODE = 33;
    private static final int MOST_CODE = 126;

    private static final int BOOK_SHEETS = 0;
    private static final int STAIR_STEPS = 1;
    private static final int STITCH_LENGTH = 2;
    private static final int SETTINGS = 3;
    private static final int[] LEAST_VALUES = {1, 2, 1};
    private static final int[] MOST_VALUES = {16, 8, 9};
    private static final int[] FIRST_VALUES = {8, 5, 2};

    private static final int WITHOUT_FAULT = 0;
    private static final int EMPTY = 1;
    private static final int UPSIDE_DOWN = 2;
    private static final int FOREIGN = 3;
    private static final int DOUBLE = 4;
    private static final int MISSING = 5;
    private static final int OUT_OF_ORDER = 6;

    private static final int SHEET_NUMBERS = 6;
    private static final int BIN_NUMBERS = 5;
    private static final int COUNTS = 16;
    private static final int PULLED_NUMBERS = 4;

    private static final long HASH_START = 3853L;

    private final State now = new State();
    private final State snapshot = new State();
    private final State trial = new State();
    private final History history = new History();
    private final Reader reader = new Reader();
    private final int[] buffer = new int[MOST_CHARACTERS];
    private int bufferLength;
    private boolean hasSnapshot;

    public SteppedSpines() {
        bufferLength = 0;
        hasSnapshot = false;
    }

    // ---- the block

    public int gather(int number) throws IndexOutOfBoundsException, IllegalStateException {
        if (!isBin(number)) {
            throw new IndexOutOfBoundsException("there is no such bin");
        }
        if (!now.hasCopyAndRoom(number)) {
            throw new IllegalStateException("the bin is empty, or the block is full");
        }
        history.save(now);
        now.putFromBin(now.block.size, number);
        return now.block.size;
    }

    public int insert(int place, int number) throws IndexOutOfBoundsException, IllegalStateException {
        if (place < 0 || place > now.block.size || !isBin(number)) {
            throw new IndexOutOfBoundsException("there is no such place or bin");
        }
        if (!now.hasCopyAndRoom(number)) {
            throw new IllegalStateException("the bin is empty, or the block is full");
        }
        history.save(now);
        now.putFromBin(place, number);
        return now.block.size;
    }

    public int pull(int place) throws IndexOutOfBoundsException {
        if (!now.block.hasPlace(place)) {
            throw new IndexOutOfBoundsException("there is no such place");
        }
        history.save(now);
        return now.putBack(place);
    }

    public int flip(int place) throws IndexOutOfBoundsException {
        if (!now.block.hasPlace(place)) {
            throw new IndexOutOfBoundsException("there is no such place");
        }
        history.save(now);
        now.block.turnOver(place);
        return now.stepOfMark(place);
    }

    public int move(int from, int to) throws IndexOutOfBoundsException {
        if (!now.block.hasPlace(from) || !now.block.hasPlace(to)) {
            throw new IndexOutOfBoundsException("there is no such place in the block");
        }
        history.save(now);
        now.block.shift(from, to);
        return now.breaks();
    }

    public int bind() throws IllegalStateException {
        if (now.fault() != WITHOUT_FAULT) {
            throw new IllegalStateException("the block has a fault");
        }
        history.save(now);
        now.bindBlock();
        return now.booksBound;
    }

    // ---- bins, settings

    public int print(int number, int copies)
            throws IndexOutOfBoundsException, IllegalArgumentException, IllegalStateException {
        if (!isBin(number)) {
            throw new IndexOutOfBoundsException("there is no such bin");
        }
        if (copies < 1 || copies > MOST_PRINTED_AT_ONCE) {
            throw new IllegalArgumentException("copies is out of range");
        }
        if (at(now.copies, number) + copies > MOST_COPIES) {
            throw new IllegalStateException("the bin would have too many copies");
        }
        history.save(now);
        addTo(now.copies, number, copies);
        addTo(now.printed, number, copies);
        return at(now.copies, number);
    }

    public int punch(int number, int holes) throws IndexOutOfBoundsException, IllegalArgumentException {
        if (!isBin(number)) {
            throw new IndexOutOfBoundsException("there is no such bin");
        }
        if (holes < 1 || holes > ALL_HOLES) {
            throw new IllegalArgumentException("holes is out of range");
        }
        history.save(now);
        int before = at(now.holes, number);
        put(now.holes, number, holes);
        return before;
    }

    public int set(int setting, int value) throws IndexOutOfBoundsException, IllegalArgumentException {
        if (!isSetting(setting)) {
            throw new IndexOutOfBoundsException("there is no such setting");
        }
        if (value < at(LEAST_VALUES, setting) || value > at(MOST_VALUES, setting)) {
            throw new IllegalArgumentException("value is out of range");
        }
        history.save(now);
        int before = at(now.settings, setting);
        put(now.settings, setting, value);
        return before;
    }

    // ---- texts, the snapshot

    public int append(int code) throws IllegalArgumentException, IllegalStateException {
        if (code < LEAST_CODE || code > MOST_CODE) {
            throw new IllegalArgumentException("the code is out of range");
        }
        if (bufferLength >= MOST_CHARACTERS) {
            throw new IllegalStateException("the buffer is full");
        }
        put(buffer, bufferLength, code);
        bufferLength++;
        return bufferLength;
    }

    public int clearBuffer() {
        int before = bufferLength;
        bufferLength = 0;
        return before;
    }

    public int firstError() {
        return readBuffer();
    }

    public int work() throws IllegalArgumentException {
        if (readBuffer() < bufferLength || !reader.isComplete()) {
            throw new IllegalArgumentException("the buffer is not complete work as a text");
        }
        history.save(now);
        int done = doParts();
        bufferLength = 0;
        return done;
    }

    public int keep() {
        snapshot.copyFrom(now);
        hasSnapshot = true;
        return now.block.size;
    }

    public int goBack() throws IllegalStateException {
        if (!hasSnapshot) {
            throw new IllegalStateException("there is no snapshot");
        }
        history.save(now);
        now.copyFrom(snapshot);
        return now.block.size;
    }

    public int undo() throws IllegalStateException {
        if (history.size == 0) {
            throw new IllegalStateException("there is no saved state");
        }
        history.restore(now);
        return history.size;
    }

    // ---- looks; nothing is changed

    public int sheet(int place, int what) throws IndexOutOfBoundsException, IllegalArgumentException {
        if (place < 0) {
            throw new IndexOutOfBoundsException("place is below 0");
        }
        if (what < 0 || what >= SHEET_NUMBERS) {
            throw new IllegalArgumentException("what is out of range");
        }
        if (!now.block.hasPlace(place)) {
            return NONE;
        }
        switch (what) {
            case 0: return at(now.block.numbers, place);
            case 1: return at(now.block.turned, place);
            case 2: return now.stepOfMark(place);
            case 3: return now.breaksAheadOf(place) ? 1 : 0;
            case 4: return now.stitchesAheadOf(place);
            default: return now.block.greaterAheadOf(place);
        }
    }

    public int bin(int number, int what) throws IndexOutOfBoundsException, IllegalArgumentException {
        if (!isBin(number)) {
            throw new IndexOutOfBoundsException("there is no such bin");
        }
        if (what < 0 || what >= BIN_NUMBERS) {
            throw new IllegalArgumentException("what is out of range");
        }
        switch (what) {
            case 0: return at(now.copies, number);
            case 1: return now.block.copiesOf(number);
            case 2: return at(now.inBooks, number);
            case 3: return at(now.printed, number);
            default: return at(now.holes, number);
        }
    }

    public int count(int what) throws IllegalArgumentException {
        if (what < 0 || what >= COUNTS) {
            throw new IllegalArgumentException("what is out of range");
        }
        switch (what) {
            case 0: return now.block.size;
            case 1: return now.breaks();
            case 2: return now.fault();
            case 3: return now.placeOfFault();
            case 4: return now.lowestMissing();
            case 5: return now.fault() != WITHOUT_FAULT && now.breaks() == 0 ? 1 : 0;
            case 6: return now.block.fewestMovesBySheets();
            case 7: return now.block.fewestMovesByPiles();
            case 8: return now.block.fallingPairs();
            case 9: return now.stitches();
            case 10: return now.threadLength();
            case 11: return now.loosePlaces();
            case 12: return now.booksBound;
            case 13: return now.sheetsInBooks();
            case 14: return now.latestStop;
            default: return history.size;
        }
    }

    public int setting(int setting) throws IndexOutOfBoundsException {
        if (!isSetting(setting)) {
            throw new IndexOutOfBoundsException("there is no such setting");
        }
        return at(now.settings, setting);
    }

    // ---- what would be; nothing is changed

    public int nextMove() {
        int size = now.block.size;
        int longest = now.block.longestRowBySheets();
        if (longest >= size) {
            return NONE;
        }
        Block rest = trial.block;
        for (int from = 0; from < size; from++) {
            rest.copyFrom(now.block);
            rest.takeOut(from);
            int to = rest.placeThatMakesRowOf(longest + 1, at(now.block.numbers, from));
            if (to != NONE) {
                return MOST_SHEETS * from + to;
            }
        }
        return NONE;
    }

    public int ifPulled(int place, int what) throws IndexOutOfBoundsException, IllegalArgumentException {
        if (!now.block.hasPlace(place)) {
            throw new IndexOutOfBoundsException("there is no such place");
        }
        if (what < 0 || what >= PULLED_NUMBERS) {
            throw new IllegalArgumentException("what is out of range");
        }
        trial.copyFrom(now);
        trial.block.takeOut(place);
        switch (what) {
            case 0: return trial.breaks();
            case 1: return trial.fault();
            case 2: return trial.block.fewestMovesBySheets();
            default: return trial.stitches();
        }
    }

    public int fits() {
        if (now.block.size >= MOST_SHEETS) {
            return NONE;
        }
        int step = now.stepDueAt(now.block.size);
        for (int number = 0; number < BINS; number++) {
            if (at(now.copies, number) > 0 && now.stepOfNumber(number) == step) {
                return number;
            }
        }
        return NONE;
    }

    public int books() {
        int least = now.copiesInBinAndBlock(0);
        for (int number = 1; number < now.bookSheets(); number++) {
            least = Math.min(least, now.copiesInBinAndBlock(number));
        }
        return least;
    }

    public double stairShare() {
        int size = now.block.size;
        return size > 0 ? (double) (size - now.breaks()) / size : 1.0;
    }

    public float meanThread() {
        int size = now.block.size;
        return size > 0 ? (float) now.threadLength() / size : 0.0f;
    }

    public long digest() {
        long hash = HASH_START;
        for (int what = 0; what < COUNTS; what++) {
            hash = hashWith(hash, count(what));
        }
        for (int which = 0; which < SETTINGS; which++) {
            hash = hashWith(hash, at(now.settings, which));
        }
        for (int place = 0; place < now.block.size; place++) {
            for (int what = 0; what < SHEET_NUMBERS; what++) {
                hash = hashWith(hash, sheet(place, what));
            }
            for (int what = 0; what < PULLED_NUMBERS; what++) {
                hash = hashWith(hash, ifPulled(place, what));
            }
        }
        for (int number = 0; number < BINS; number++) {
            for (int what = 0; what < BIN_NUMBERS; what++) {
                hash = hashWith(hash, bin(number, what));
            }
        }
        hash = hashWith(hash, nextMove());
        hash = hashWith(hash, fits());
        hash = hashWith(hash, books());
        hash = hashWith(hash, bitsOfDouble(stairShare()));
        hash = hashWith(hash, bitsOfFloat(meanThread()));
        hash = hashWith(hash, hasSnapshot ? 1 : 0);
        return hashWithBuffer(hash);
    }

    // ---- parts of the work

    /** Reads the buffer up to its first syntax error; the reader stands behind what was read then. */
    private int readBuffer() {
        reader.start();
        for (int i = 0; i < bufferLength; i++) {
            if (!reader.accepts(at(buffer, i))) {
                return i;
            }
        }
        return bufferLength;
    }

    /** Does the parts of a buffer that is known to be complete work. */
    private int doParts() {
        int done = 0;
        reader.start();
        for (int i = 0; i <= bufferLength; i++) {
            boolean partEnds = i == bufferLength || at(buffer, i) == ';';
            if (partEnds && !partCanBeDone()) {
                now.latestStop = done;
                return done;
            }
            if (partEnds) {
                doPart();
                done++;
            }
            if (i < bufferLength) {
                reader.accepts(at(buffer, i));
            }
        }
        now.latestStop = NONE;
        return done;
    }

    /** Whether the part that the reader has read would not throw an exception as a call. */
    private boolean partCanBeDone() {
        switch (reader.letter) {
            case 'g': return now.hasCopyAndRoom(reader.number);
            case 'p':
            case 'f': return now.block.hasPlace(reader.number);
            case 'm': return now.block.hasPlace(reader.firstNumber) && now.block.hasPlace(reader.number);
            default: return now.fault() == WITHOUT_FAULT;
        }
    }

    /** Does the part that the reader has read, and that can be done. */
    private void doPart() {
        switch (reader.letter) {
            case 'g':
                now.putFromBin(now.block.size, reader.number);
                break;
            case 'p':
                now.putBack(reader.number);
                break;
            case 'f':
                now.block.turnOver(reader.number);
                break;
            case 'm':
                now.block.shift(reader.firstNumber, reader.number);
                break;
            default:
                now.bindBlock();
                break;
        }
    }

    // ---- parts of the digest

    private static long hashWith(long hash, long value) {
        return 31L * hash + value;
    }

    private long hashWithBuffer(long start) {
        long hash = hashWith(start, bufferLength);
        for (int i = 0; i < bufferLength; i++) {
            hash = hashWith(hash, at(buffer, i));
        }
        return hash;
    }

    /**
     * The bits of 0 or of a normal number above it. They are reckoned here, since the language
     * rules leave no library function over doubles; each step is exact.
     */
    private static long bitsOfDouble(double value) {
        if (!(value > 0.0)) {
            return 0L;
        }
        double part = value;
        int exponent = 0;
        while (part >= 2.0 && exponent < 1023) {
            part = part / 2.0;
            exponent++;
        }
        while (part < 1.0 && exponent > -1022) {
            part = part * 2.0;
            exponent--;
        }
        long fraction = (long) ((part - 1.0) * (double) (1L << 52));
        return ((long) (exponent + 1023) << 52) + fraction;
    }

    /** The bits of 0 or of a normal number above it: those of the like double, cut to a float's lengths. */
    private static int bitsOfFloat(float value) {
        if (!(value > 0.0f)) {
            return 0;
        }
        long bits = bitsOfDouble((double) value);
        return (int) ((bits >> 29) - ((1023L - 127L) << 23));
    }

    // ---- arguments and rows

    private static boolean isBin(int number) {
        return number >= 0 && number < BINS;
    }

    private static boolean isSetting(int which) {
        return which >= 0 && which < SETTINGS;
    }

    /** A cell of a row. Beyond the row it reads as 0, so that no index can make the machine throw. */
    private static int at(int[] row, int index) {
        return row != null && index >= 0 && index < row.length ? row[index] : 0;
    }

    /** Writes a cell of a row; beyond the row nothing is written. */
    private static void put(int[] row, int index, int value) {
        if (row != null && index >= 0 && index < row.length) {
            row[index] = value;
        }
    }

    private static void addTo(int[] row, int index, int more) {
        put(row, index, at(row, index) + more);
    }

    private static void copyRow(int[] from, int[] to) {
        if (from != null && to != null) {
            System.arraycopy(from, 0, to, 0, Math.min(from.length, to.length));
        }
    }

    /** A row of sheets, from its front to its back. */
    private static final class Block {
        final int[] numbers = new int[MOST_SHEETS];
        /** 1 for each sheet that lies upside down, otherwise 0. */
        final int[] turned = new int[MOST_SHEETS];
        int size;
        private final int[] longestEnding = new int[MOST_SHEETS];
        private final int[] longestBeginning = new int[MOST_SHEETS];
        private final int[] tops = new int[MOST_SHEETS];

        boolean hasPlace(int place) {
            return place >= 0 && place < size;
        }

        void copyFrom(Block other) {
            if (other != null) {
                copyRow(other.numbers, numbers);
                copyRow(other.turned, turned);
                size = other.size;
            }
        }

        void putIn(int place, int number, int lie) {
            if (place < 0 || place > size || size >= MOST_SHEETS) {
                return;
            }
            for (int i = size; i > place; i--) {
                put(numbers, i, at(numbers, i - 1));
                put(turned, i, at(turned, i - 1));
            }
            put(numbers, place, number);
            put(turned, place, lie);
            size++;
        }

        void takeOut(int place) {
            if (!hasPlace(place)) {
                return;
            }
            for (int i = place; i < size - 1; i++) {
                put(numbers, i, at(numbers, i + 1));
                put(turned, i, at(turned, i + 1));
            }
            size--;
        }

        void turnOver(int place) {
            if (hasPlace(place)) {
                put(turned, place, 1 - at(turned, place));
            }
        }

        void shift(int from, int to) {
            if (!hasPlace(from) || !hasPlace(to)) {
                return;
            }
            int number = at(numbers, from);
            int lie = at(turned, from);
            takeOut(from);
            putIn(to, number, lie);
        }

        int copiesOf(int number) {
            int copies = 0;
            for (int i = 0; i < size; i++) {
                if (at(numbers, i) == number) {
                    copies++;
                }
            }
            return copies;
        }

        int firstTurned() {
            for (int i = 0; i < size; i++) {
                if (at(turned, i) != 0) {
                    return i;
                }
            }
            return NONE;
        }

        int firstNotBelow(int limit) {
            for (int i = 0; i < size; i++) {
                if (at(numbers, i) >= limit) {
                    return i;
                }
            }
            return NONE;
        }

        int firstDouble() {
            for (int i = 1; i < size; i++) {
                for (int j = 0; j < i; j++) {
                    if (at(numbers, j) == at(numbers, i)) {
                        return i;
                    }
                }
            }
            return NONE;
        }

        int firstFall() {
            for (int i = 1; i < size; i++) {
                if (at(numbers, i) < at(numbers, i - 1)) {
                    return i;
                }
            }
            return NONE;
        }

        int greaterAheadOf(int place) {
            int greater = 0;
            for (int i = 0; i < place && i < size; i++) {
                if (at(numbers, i) > at(numbers, place)) {
                    greater++;
                }
            }
            return greater;
        }

        int fallingPairs() {
            int pairs = 0;
            for (int i = 0; i < size; i++) {
                pairs += greaterAheadOf(i);
            }
            return pairs;
        }

        int fewestMovesBySheets() {
            return size - longestRowBySheets();
        }

        int fewestMovesByPiles() {
            return size - pilesOfSheets();
        }

        int longestRowBySheets() {
            findLongestEnding();
            int longest = 0;
            for (int i = 0; i < size; i++) {
                longest = Math.max(longest, at(longestEnding, i));
            }
            return longest;
        }

        private void findLongestEnding() {
            for (int i = 0; i < size; i++) {
                put(longestEnding, i, 1 + longestAhead(i, at(numbers, i)));
            }
        }

        private void findLongestBeginning() {
            for (int i = size - 1; i >= 0; i--) {
                put(longestBeginning, i, 1 + longestFrom(i + 1, at(numbers, i)));
            }
        }

        /** The longest row among the sheets ahead of a place whose last number is not above the given one. */
        private int longestAhead(int place, int number) {
            int longest = 0;
            for (int i = 0; i < place && i < size; i++) {
                if (at(numbers, i) <= number) {
                    longest = Math.max(longest, at(longestEnding, i));
                }
            }
            return longest;
        }

        /** The longest row among the sheets from a place on whose first number is not below the given one. */
        private int longestFrom(int place, int number) {
            int longest = 0;
            for (int i = place; i < size; i++) {
                if (at(numbers, i) >= number) {
                    longest = Math.max(longest, at(longestBeginning, i));
                }
            }
            return longest;
        }

        private int pilesOfSheets() {
            int piles = 0;
            for (int i = 0; i < size; i++) {
                int number = at(numbers, i);
                int pile = 0;
                while (pile < piles && at(tops, pile) <= number) {
                    pile++;
                }
                put(tops, pile, number);
                piles = Math.max(piles, pile + 1);
            }
            return piles;
        }

        /** The first place where a sheet more, with this number, would stand in a row that is so long. */
        int placeThatMakesRowOf(int length, int number) {
            findLongestEnding();
            findLongestBeginning();
            for (int place = 0; place <= size; place++) {
                if (longestAhead(place, number) + 1 + longestFrom(place, number) >= length) {
                    return place;
                }
            }
            return NONE;
        }
    }

    /** All that undo() restores. */
    private static final class State {
        final Block block = new Block();
        final int[] copies = new int[BINS];
        final int[] inBooks = new int[BINS];
        final int[] printed = new int[BINS];
        final int[] holes = new int[BINS];
        final int[] settings = new int[SETTINGS];
        int booksBound;
        int latestStop;

        State() {
            Arrays.fill(copies, FIRST_COPIES);
            Arrays.fill(printed, FIRST_COPIES);
            Arrays.fill(holes, ALL_HOLES);
            copyRow(FIRST_VALUES, settings);
            booksBound = 0;
            latestStop = NONE;
        }

        void copyFrom(State other) {
            if (other != null) {
                block.copyFrom(other.block);
                copyRow(other.copies, copies);
                copyRow(other.inBooks, inBooks);
                copyRow(other.printed, printed);
                copyRow(other.holes, holes);
                copyRow(other.settings, settings);
                booksBound = other.booksBound;
                latestStop = other.latestStop;
            }
        }

        int bookSheets() {
            return at(settings, BOOK_SHEETS);
        }

        boolean hasCopyAndRoom(int number) {
            return at(copies, number) > 0 && block.size < MOST_SHEETS;
        }

        void putFromBin(int place, int number) {
            addTo(copies, number, -1);
            block.putIn(place, number, 0);
        }

        int putBack(int place) {
            int number = at(block.numbers, place);
            block.takeOut(place);
            addTo(copies, number, 1);
            return number;
        }

        void bindBlock() {
            for (int i = 0; i < block.size; i++) {
                addTo(inBooks, at(block.numbers, i), 1);
            }
            block.size = 0;
            booksBound++;
        }

        int copiesInBinAndBlock(int number) {
            return at(copies, number) + block.copiesOf(number);
        }

        int sheetsInBooks() {
            int sheets = 0;
            for (int number = 0; number < BINS; number++) {
                sheets += at(inBooks, number);
            }
            return sheets;
        }

        int stepOfNumber(int number) {
            int steps = at(settings, STAIR_STEPS);
            return steps > 0 ? number % steps : 0;
        }

        int stepOfMark(int place) {
            int step = stepOfNumber(at(block.numbers, place));
            return at(block.turned, place) == 0 ? step : at(settings, STAIR_STEPS) - 1 - step;
        }

        /** The step that a mark at this place has to be at, so that the stair does not break ahead of it. */
        int stepDueAt(int place) {
            return place > 0 ? stepOfNumber(stepOfMark(place - 1) + 1) : 0;
        }

        boolean breaksAheadOf(int place) {
            return stepOfMark(place) != stepDueAt(place);
        }

        int breaks() {
            int breaks = 0;
            int due = 0;
            for (int i = 0; i < block.size; i++) {
                int step = stepOfMark(i);
                if (step != due) {
                    breaks++;
                }
                due = stepOfNumber(step + 1);
            }
            return breaks;
        }

        int fault() {
            if (block.size == 0) {
                return EMPTY;
            }
            if (block.firstTurned() != NONE) {
                return UPSIDE_DOWN;
            }
            if (block.firstNotBelow(bookSheets()) != NONE) {
                return FOREIGN;
            }
            if (block.firstDouble() != NONE) {
                return DOUBLE;
            }
            if (lowestMissing() != NONE) {
                return MISSING;
            }
            return block.firstFall() != NONE ? OUT_OF_ORDER : WITHOUT_FAULT;
        }

        int placeOfFault() {
            switch (fault()) {
                case UPSIDE_DOWN: return block.firstTurned();
                case FOREIGN: return block.firstNotBelow(bookSheets());
                case DOUBLE: return block.firstDouble();
                case OUT_OF_ORDER: return block.firstFall();
                default: return NONE;
            }
        }

        int lowestMissing() {
            for (int number = 0; number < bookSheets() && number < BINS; number++) {
                if (block.copiesOf(number) == 0) {
                    return number;
                }
            }
            return NONE;
        }

        int holesAt(int place) {
            return at(holes, at(block.numbers, place));
        }

        int stitchesAheadOf(int place) {
            return place > 0 ? Integer.bitCount(holesAt(place - 1) & holesAt(place)) : 0;
        }

        int stitches() {
            int stitches = 0;
            for (int i = 1; i < block.size; i++) {
                stitches += stitchesAheadOf(i);
            }
            return stitches;
        }

        int loosePlaces() {
            int places = 0;
            for (int i = 1; i < block.size; i++) {
                if (stitchesAheadOf(i) == 0) {
                    places++;
                }
            }
            return places;
        }

        int threadLength() {
            int length = stitches() * at(settings, STITCH_LENGTH);
            for (int i = 0; i < block.size; i++) {
                length += spanOfHoles(holesAt(i));
            }
            return length;
        }

        /** By how much the numbers of the outermost holes differ. */
        private static int spanOfHoles(int mask) {
            int lowest = 0;
            while (lowest < HOLES && (mask >> lowest & 1) == 0) {
                lowest++;
            }
            int highest = HOLES - 1;
            while (highest > lowest && (mask >> highest & 1) == 0) {
                highest--;
            }
            return Math.max(0, highest - lowest);
        }
    }

    /** The saved states, the latest one last. Its states are used again and again. */
    private static final class History {
        private final State[] states = new State[MOST_SAVED];
        int size;

        History() {
            for (int i = 0; i < states.length; i++) {
                states[i] = new State();
            }
            size = 0;
        }

        void save(State state) {
            if (size >= states.length) {
                dropOldest();
            }
            if (size >= 0 && size < states.length && states[size] != null) {
                states[size].copyFrom(state);
                size++;
            }
        }

        /** The oldest state goes to the end of the row, to be written anew there. */
        private void dropOldest() {
            State oldest = states.length > 0 ? states[0] : null;
            for (int i = 1; i < states.length; i++) {
                states[i - 1] = states[i];
                states[i] = oldest;
            }
            size--;
        }

        void restore(State state) {
            if (state != null && size > 0 && size <= states.length) {
                size--;
                state.copyFrom(states[size]);
            }
        }
    }

    /** Reads work as a text, character by character. */
    private static final class Reader {
        private static final int BEFORE_PART = 0;
        private static final int BEFORE_NUMBER = 1;
        private static final int IN_NUMBER = 2;
        private static final int BEHIND_PART = 3;
        private static final int MOST_NUMBER = 19;

        /** The letter and the numbers of the part that was read last. */
        char letter;
        int firstNumber;
        int number;
        private int where;
        private boolean firstIsRead;

        void start() {
            letter = ' ';
            firstNumber = 0;
            number = 0;
            where = BEFORE_PART;
            firstIsRead = false;
        }

        /** Reads a character; answers false, with nothing changed, if it is a syntax error. */
        boolean accepts(int code) {
            switch (where) {
                case BEFORE_PART: return acceptsLetter(code);
                case BEFORE_NUMBER: return acceptsFirstDigit(code);
                case IN_NUMBER: return acceptsSecondDigit(code) || acceptsArrow(code) || acceptsEndOfPart(code);
                default: return acceptsEndOfPart(code);
            }
        }

        boolean isComplete() {
            return where == BEHIND_PART || where == IN_NUMBER && !arrowIsDue();
        }

        private boolean arrowIsDue() {
            return letter == 'm' && !firstIsRead;
        }

        private boolean acceptsLetter(int code) {
            if (code != 'g' && code != 'p' && code != 'f' && code != 'm' && code != 'b') {
                return false;
            }
            letter = (char) code;
            firstIsRead = false;
            where = code == 'b' ? BEHIND_PART : BEFORE_NUMBER;
            return true;
        }

        private boolean acceptsFirstDigit(int code) {
            if (code < '0' || code > '9') {
                return false;
            }
            number = code - '0';
            where = IN_NUMBER;
            return true;
        }

        private boolean acceptsSecondDigit(int code) {
            if (code < '0' || code > '9') {
                return false;
            }
            int most = letter == 'g' ? BINS - 1 : MOST_NUMBER;
            int longer = 10 * number + code - '0';
            if (number == 0 || longer > most) {
                return false;
            }
            number = longer;
            return true;
        }

        private boolean acceptsArrow(int code) {
            if (code != '>' || !arrowIsDue()) {
                return false;
            }
            firstNumber = number;
            firstIsRead = true;
            where = BEFORE_NUMBER;
            return true;
        }

        private boolean acceptsEndOfPart(int code) {
            if (code != ';' || !isComplete()) {
                return false;
            }
            where = BEFORE_PART;
            return true;
        }
    }
}
