/**
 * Exceptions: each call that throws changes nothing, and of several exceptions the one that is named
 * first in the throws clause is thrown. Each number is tried just beyond its range, and far beyond.
 */
final class RefusalTests {
    private static final Class<?> BOUNDS = Steps.BOUNDS;
    private static final Class<?> ARGUMENT = Steps.ARGUMENT;
    private static final Class<?> STATE = Steps.STATE;
    private static final int LEAST = Integer.MIN_VALUE;
    private static final int MOST = Integer.MAX_VALUE;
    private static final int[] NO_BINS = {-1, 16, 20, LEAST, MOST};
    /** The block of rich() has three sheets. */
    private static final int[] NO_PLACES = {-1, 3, 4, 20, LEAST, MOST};

    private RefusalTests() {
    }

    static void runAll() {
        Checks.test("refused: gather (promise 2)", RefusalTests::gather);
        Checks.test("refused: insert (promise 3)", RefusalTests::insert);
        Checks.test("refused: pull (promise 4)", RefusalTests::pull);
        Checks.test("refused: flip (promise 5)", RefusalTests::flip);
        Checks.test("refused: move (promise 6)", RefusalTests::move);
        Checks.test("refused: bind (promise 7)", RefusalTests::bind);
        Checks.test("refused: print (promise 8)", RefusalTests::print);
        Checks.test("refused: punch (promise 9)", RefusalTests::punch);
        Checks.test("refused: set (promise 10)", RefusalTests::set);
        Checks.test("refused: append (promise 11)", RefusalTests::append);
        Checks.test("refused: work (promise 14)", RefusalTests::work);
        Checks.test("refused: goBack and undo (promises 16 and 17)", RefusalTests::goBackAndUndo);
        Checks.test("refused: sheet (promise 18)", RefusalTests::sheet);
        Checks.test("refused: bin (promise 19)", RefusalTests::bin);
        Checks.test("refused: count and setting (promises 20 and 21)", RefusalTests::countAndSetting);
        Checks.test("refused: ifPulled (promise 23)", RefusalTests::ifPulled);
    }

    private static void rich(String name, Class<?> exception, Steps.Calls call) {
        Checks.refused(Steps::rich, name, exception, call);
    }

    private static void full(String name, Class<?> exception, Steps.Calls call) {
        Checks.refused(Steps::fullBlock, name + " with 20 sheets", exception, call);
    }

    private static void fresh(String name, Class<?> exception, Steps.Calls call) {
        Checks.refused(SteppedSpines::new, name + " of a new object", exception, call);
    }

    private static void gather() {
        for (int number : NO_BINS) {
            rich("gather " + number, BOUNDS, spines -> spines.gather(number));
            full("gather " + number, BOUNDS, spines -> spines.gather(number));
            fresh("gather " + number, BOUNDS, spines -> spines.gather(number));
        }
        rich("gather of an empty bin", STATE, spines -> spines.gather(3));
        full("gather", STATE, spines -> spines.gather(10));
        full("gather of an empty bin", STATE, spines -> spines.gather(0));
    }

    private static void insert() {
        for (int place : new int[] {-1, 4, 5, 20, LEAST, MOST}) {
            rich("insert at " + place, BOUNDS, spines -> spines.insert(place, 0));
            rich("insert of an empty bin at " + place, BOUNDS, spines -> spines.insert(place, 3));
            rich("insert of no bin at " + place, BOUNDS, spines -> spines.insert(place, 16));
        }
        for (int number : NO_BINS) {
            rich("insert " + number, BOUNDS, spines -> spines.insert(0, number));
            rich("insert behind the block " + number, BOUNDS, spines -> spines.insert(3, number));
            full("insert " + number, BOUNDS, spines -> spines.insert(20, number));
        }
        rich("insert of an empty bin at the front", STATE, spines -> spines.insert(0, 3));
        rich("insert of an empty bin at the back", STATE, spines -> spines.insert(3, 3));
        full("insert at 0", STATE, spines -> spines.insert(0, 10));
        full("insert at 20", STATE, spines -> spines.insert(20, 10));
        full("insert at 20 of an empty bin", STATE, spines -> spines.insert(20, 0));
        full("insert at 21", BOUNDS, spines -> spines.insert(21, 10));
        full("insert at -1", BOUNDS, spines -> spines.insert(-1, 10));
        fresh("insert at 1", BOUNDS, spines -> spines.insert(1, 0));
        fresh("insert at -1", BOUNDS, spines -> spines.insert(-1, 0));
    }

    private static void pull() {
        for (int place : NO_PLACES) {
            rich("pull " + place, BOUNDS, spines -> spines.pull(place));
        }
        full("pull 20", BOUNDS, spines -> spines.pull(20));
        full("pull -1", BOUNDS, spines -> spines.pull(-1));
        fresh("pull 0", BOUNDS, spines -> spines.pull(0));
    }

    private static void flip() {
        for (int place : NO_PLACES) {
            rich("flip " + place, BOUNDS, spines -> spines.flip(place));
        }
        full("flip 20", BOUNDS, spines -> spines.flip(20));
        full("flip -1", BOUNDS, spines -> spines.flip(-1));
        fresh("flip 0", BOUNDS, spines -> spines.flip(0));
    }

    private static void move() {
        for (int place : NO_PLACES) {
            rich("move from " + place, BOUNDS, spines -> spines.move(place, 0));
            rich("move to " + place, BOUNDS, spines -> spines.move(2, place));
            rich("move within " + place, BOUNDS, spines -> spines.move(place, place));
        }
        full("move 20 0", BOUNDS, spines -> spines.move(20, 0));
        full("move 0 20", BOUNDS, spines -> spines.move(0, 20));
        fresh("move 0 0", BOUNDS, spines -> spines.move(0, 0));
    }

    private static void bind() {
        rich("bind of double sheets", STATE, SteppedSpines::bind);
        full("bind", STATE, SteppedSpines::bind);
        fresh("bind", STATE, SteppedSpines::bind);
        Checks.refused(() -> Steps.bookOf(2, 0), "bind of a hidden fault", STATE, SteppedSpines::bind);
    }

    private static void print() {
        for (int number : NO_BINS) {
            rich("print into " + number, BOUNDS, spines -> spines.print(number, 1));
            rich("print no copies into " + number, BOUNDS, spines -> spines.print(number, 0));
            rich("print too many copies into " + number, BOUNDS, spines -> spines.print(number, 21));
        }
        for (int copies : new int[] {0, -1, 21, 22, 99, LEAST, MOST}) {
            rich("print " + copies, ARGUMENT, spines -> spines.print(0, copies));
            rich("print into a bin of 82 " + copies, ARGUMENT, spines -> spines.print(5, copies));
        }
        rich("print 18 into a bin of 82", STATE, spines -> spines.print(5, 18));
        rich("print 20 into a bin of 82", STATE, spines -> spines.print(5, 20));
        Checks.refused(RefusalTests::binOf99, "print 1 into a bin of 99", STATE, spines -> spines.print(5, 1));
        Checks.refused(RefusalTests::binOf99, "print 0 into a bin of 99", ARGUMENT, spines -> spines.print(5, 0));
        Checks.refused(RefusalTests::binOf99, "print 21 into a bin of 99", ARGUMENT, spines -> spines.print(5, 21));
    }

    private static SteppedSpines binOf99() {
        SteppedSpines spines = Steps.rich();
        spines.print(5, 17);
        return spines;
    }

    private static void punch() {
        for (int number : NO_BINS) {
            rich("punch " + number, BOUNDS, spines -> spines.punch(number, 1));
            rich("punch no holes in " + number, BOUNDS, spines -> spines.punch(number, 0));
            rich("punch too many holes in " + number, BOUNDS, spines -> spines.punch(number, 32));
        }
        for (int holes : new int[] {0, -1, 32, 33, 63, LEAST, MOST}) {
            rich("punch the holes " + holes, ARGUMENT, spines -> spines.punch(3, holes));
        }
    }

    private static void set() {
        for (int setting : new int[] {-1, 3, 4, LEAST, MOST}) {
            rich("set " + setting, BOUNDS, spines -> spines.set(setting, 2));
            rich("set wrongly " + setting, BOUNDS, spines -> spines.set(setting, 0));
        }
        refuseValues(0, 0, 17);
        refuseValues(1, 1, 9);
        refuseValues(2, 0, 10);
    }

    private static void refuseValues(int setting, int below, int above) {
        for (int value : new int[] {below, above, -1, below - 1, above + 1, LEAST, MOST}) {
            rich("set " + setting + " to " + value, ARGUMENT, spines -> spines.set(setting, value));
        }
    }

    private static void append() {
        for (int code : new int[] {32, 127, 0, -1, 10, 128, 255, LEAST, MOST, 103 + 256, 103 + 65536}) {
            rich("append " + code, ARGUMENT, spines -> spines.append(code));
            fresh("append " + code, ARGUMENT, spines -> spines.append(code));
            Checks.refused(RefusalTests::fullBuffer, "append to 60 characters " + code, ARGUMENT,
                    spines -> spines.append(code));
        }
        for (int code : new int[] {33, 103, 126}) {
            Checks.refused(RefusalTests::fullBuffer, "append to 60 characters " + code, STATE,
                    spines -> spines.append(code));
        }
    }

    private static SteppedSpines fullBuffer() {
        SteppedSpines spines = Steps.rich();
        spines.clearBuffer();
        Checks.due("characters", Steps.type(spines, "b;b;b;b;b;b;b;b;b;b;b;b;b;b;b;b;b;b;b;b;b;b;b;b;b;b;b;b;b;b;"), 60);
        return spines;
    }

    private static void work() {
        rich("work of a text that ends too early", ARGUMENT, SteppedSpines::work);
        fresh("work of no text", ARGUMENT, SteppedSpines::work);
        Checks.refused(RefusalTests::fullBuffer, "work of 60 characters", ARGUMENT, SteppedSpines::work);
    }

    private static void goBackAndUndo() {
        fresh("goBack", STATE, SteppedSpines::goBack);
        full("goBack", STATE, SteppedSpines::goBack);
        fresh("undo", STATE, SteppedSpines::undo);
        Checks.refused(RefusalTests::allUndone, "undo of all that is undone", STATE, SteppedSpines::undo);
    }

    private static SteppedSpines allUndone() {
        SteppedSpines spines = Steps.rich();
        for (int i = 0; i < 6; i++) {
            spines.undo();
        }
        return spines;
    }

    private static void sheet() {
        for (int place : new int[] {-1, -2, LEAST}) {
            rich("sheet " + place, BOUNDS, spines -> spines.sheet(place, 0));
            rich("sheet with a wrong what " + place, BOUNDS, spines -> spines.sheet(place, 6));
        }
        for (int what : new int[] {-1, 6, 7, LEAST, MOST}) {
            rich("sheet 0 " + what, ARGUMENT, spines -> spines.sheet(0, what));
            rich("sheet 3, where is none " + what, ARGUMENT, spines -> spines.sheet(3, what));
            fresh("sheet 0 " + what, ARGUMENT, spines -> spines.sheet(0, what));
        }
    }

    private static void bin() {
        for (int number : NO_BINS) {
            rich("bin " + number, BOUNDS, spines -> spines.bin(number, 0));
            rich("bin with a wrong what " + number, BOUNDS, spines -> spines.bin(number, 5));
        }
        for (int what : new int[] {-1, 5, 6, LEAST, MOST}) {
            rich("bin 15 " + what, ARGUMENT, spines -> spines.bin(15, what));
        }
    }

    private static void countAndSetting() {
        for (int what : new int[] {-1, 16, 17, LEAST, MOST}) {
            rich("count " + what, ARGUMENT, spines -> spines.count(what));
        }
        for (int setting : new int[] {-1, 3, 4, LEAST, MOST}) {
            rich("setting " + setting, BOUNDS, spines -> spines.setting(setting));
        }
    }

    private static void ifPulled() {
        for (int place : NO_PLACES) {
            rich("ifPulled " + place, BOUNDS, spines -> spines.ifPulled(place, 0));
            rich("ifPulled with a wrong what " + place, BOUNDS, spines -> spines.ifPulled(place, 4));
        }
        for (int what : new int[] {-1, 4, 5, LEAST, MOST}) {
            rich("ifPulled 0 " + what, ARGUMENT, spines -> spines.ifPulled(0, what));
        }
        full("ifPulled 20", BOUNDS, spines -> spines.ifPulled(20, 0));
        fresh("ifPulled 0", BOUNDS, spines -> spines.ifPulled(0, 0));
    }
}
