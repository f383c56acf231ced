/** Promises 1 to 10: a new object, the block, bins and settings. */
final class BlockTests {
    private BlockTests() {
    }

    static void runAll() {
        Checks.test("promise 1: a new object", BlockTests::newObject);
        Checks.test("promise 1: objects stand by themselves", BlockTests::objectsByThemselves);
        Checks.test("promise 2: gather", BlockTests::gather);
        Checks.test("promise 2: gather refuses", BlockTests::gatherRefuses);
        Checks.test("promise 3: insert", BlockTests::insert);
        Checks.test("promise 3: insert refuses", BlockTests::insertRefuses);
        Checks.test("promise 4: pull", BlockTests::pull);
        Checks.test("promise 5: flip", BlockTests::flip);
        Checks.test("promise 6: move", BlockTests::move);
        Checks.test("promise 7: bind", BlockTests::bind);
        Checks.test("promise 7: bind refuses", BlockTests::bindRefuses);
        Checks.test("promise 8: print", BlockTests::print);
        Checks.test("promise 9: punch", BlockTests::punch);
        Checks.test("promise 10: set", BlockTests::set);
    }

    private static void newObject() {
        SteppedSpines spines = new SteppedSpines();
        int[] counts = {0, 0, 1, -1, 0, 1, 0, 0, 0, 0, 0, 0, 0, 0, -1, 0};
        for (int what = 0; what < counts.length; what++) {
            Checks.due("count(" + what + ")", spines.count(what), counts[what]);
        }
        int[] bin = {2, 0, 0, 2, 31};
        for (int number = 0; number < 16; number++) {
            for (int what = 0; what < bin.length; what++) {
                Checks.due("bin(" + number + ", " + what + ")", spines.bin(number, what), bin[what]);
            }
        }
        Checks.due("setting(0)", spines.setting(0), 8);
        Checks.due("setting(1)", spines.setting(1), 5);
        Checks.due("setting(2)", spines.setting(2), 2);
        Checks.due("clearBuffer()", spines.clearBuffer(), 0);
        Checks.due("goBack() throws", Checks.thrownBy(spines::goBack), Steps.STATE.getName());
    }

    private static void objectsByThemselves() {
        SteppedSpines spines = new SteppedSpines();
        String due = Steps.story(new SteppedSpines());
        SteppedSpines other = Steps.rich();
        String rich = Steps.story(Steps.rich());
        Checks.due("a new object beside another", Steps.story(spines), due);
        spines.gather(3);
        spines.keep();
        Checks.due("the other", Steps.story(other), rich);
    }

    private static void gather() {
        SteppedSpines spines = new SteppedSpines();
        Checks.due("gather(15)", spines.gather(15), 1);
        Checks.due("gather(0)", spines.gather(0), 2);
        Checks.due("gather(15)", spines.gather(15), 3);
        Checks.due("the block", Steps.block(spines), "15 0 15");
        Checks.due("bin(15, 0)", spines.bin(15, 0), 0);
        Checks.due("bin(0, 0)", spines.bin(0, 0), 1);
        Steps.undoable(spines, "gather(3)", () -> spines.gather(3));
        SteppedSpines full = Steps.fullBlock();
        Checks.due("sheets", full.count(0), 20);
        full.pull(19);
        Checks.due("the 20th sheet", full.gather(10), 20);
    }

    private static void gatherRefuses() {
        SteppedSpines spines = Steps.gathered(3, 3);
        Checks.refused(spines, "gather(-1)", Steps.BOUNDS, () -> spines.gather(-1));
        Checks.refused(spines, "gather(16)", Steps.BOUNDS, () -> spines.gather(16));
        Checks.refused(spines, "gather(max)", Steps.BOUNDS, () -> spines.gather(Integer.MAX_VALUE));
        Checks.refused(spines, "gather(min)", Steps.BOUNDS, () -> spines.gather(Integer.MIN_VALUE));
        Checks.refused(spines, "gather(3) of an empty bin", Steps.STATE, () -> spines.gather(3));
        SteppedSpines full = Steps.fullBlock();
        Checks.refused(full, "gather(10) to a full block", Steps.STATE, () -> full.gather(10));
        Checks.refused(full, "gather(16) to a full block", Steps.BOUNDS, () -> full.gather(16));
    }

    private static void insert() {
        SteppedSpines spines = new SteppedSpines();
        Checks.due("insert(0, 5)", spines.insert(0, 5), 1);
        Checks.due("insert(1, 7)", spines.insert(1, 7), 2);
        Checks.due("insert(0, 9)", spines.insert(0, 9), 3);
        spines.flip(1);
        Checks.due("insert(1, 5)", spines.insert(1, 5), 4);
        Checks.due("the block", Steps.block(spines), "9 5 5- 7");
        Checks.due("bin(5, 0)", spines.bin(5, 0), 0);
        Steps.undoable(spines, "insert(2, 1)", () -> spines.insert(2, 1));
    }

    private static void insertRefuses() {
        SteppedSpines spines = Steps.gathered(3, 3);
        Checks.refused(spines, "insert(-1, 0)", Steps.BOUNDS, () -> spines.insert(-1, 0));
        Checks.refused(spines, "insert(3, 0)", Steps.BOUNDS, () -> spines.insert(3, 0));
        Checks.refused(spines, "insert(0, 16)", Steps.BOUNDS, () -> spines.insert(0, 16));
        Checks.refused(spines, "insert(0, -1)", Steps.BOUNDS, () -> spines.insert(0, -1));
        Checks.refused(spines, "insert(3, 3) of an empty bin", Steps.BOUNDS, () -> spines.insert(3, 3));
        Checks.refused(spines, "insert(2, 3) of an empty bin", Steps.STATE, () -> spines.insert(2, 3));
        SteppedSpines full = Steps.fullBlock();
        Checks.refused(full, "insert(20, 10) to a full block", Steps.STATE, () -> full.insert(20, 10));
        Checks.refused(full, "insert(21, 10) to a full block", Steps.BOUNDS, () -> full.insert(21, 10));
        Checks.refused(full, "insert(0, 16) to a full block", Steps.BOUNDS, () -> full.insert(0, 16));
    }

    private static void pull() {
        SteppedSpines spines = Steps.gathered(4, 6, 8);
        spines.flip(1);
        Steps.undoable(spines, "pull(1)", () -> spines.pull(1));
        Checks.due("pull(1)", spines.pull(1), 6);
        Checks.due("the block", Steps.block(spines), "4 8");
        Checks.due("bin(6, 0)", spines.bin(6, 0), 2);
        Checks.due("gather(6)", spines.gather(6), 3);
        Checks.due("a copy from the bin lies right", Steps.block(spines), "4 8 6");
        Checks.refused(spines, "pull(3)", Steps.BOUNDS, () -> spines.pull(3));
        Checks.refused(spines, "pull(-1)", Steps.BOUNDS, () -> spines.pull(-1));
        Checks.due("pull(0)", spines.pull(0), 4);
        Checks.due("pull(1)", spines.pull(1), 6);
        Checks.due("pull(0)", spines.pull(0), 8);
        Checks.refused(spines, "pull(0) without sheets", Steps.BOUNDS, () -> spines.pull(0));
    }

    private static void flip() {
        SteppedSpines spines = Steps.gathered(6, 2, 15);
        Steps.undoable(spines, "flip(0)", () -> spines.flip(0));
        Checks.due("flip(0)", spines.flip(0), 3);
        Checks.due("flip(1)", spines.flip(1), 2);
        Checks.due("flip(2)", spines.flip(2), 4);
        Checks.due("the block", Steps.block(spines), "6- 2- 15-");
        Checks.due("flip(0)", spines.flip(0), 1);
        spines.set(1, 8);
        Checks.due("flip(2)", spines.flip(2), 7);
        Checks.due("flip(2)", spines.flip(2), 0);
        Checks.refused(spines, "flip(3)", Steps.BOUNDS, () -> spines.flip(3));
        Checks.refused(spines, "flip(-1)", Steps.BOUNDS, () -> spines.flip(-1));
    }

    private static void move() {
        SteppedSpines spines = Steps.gathered(0, 1, 2, 3, 4);
        spines.flip(1);
        Steps.undoable(spines, "move(1, 3)", () -> spines.move(1, 3));
        Checks.due("move(1, 3)", spines.move(1, 3), 2);
        Checks.due("to behind", Steps.block(spines), "0 2 3 1- 4");
        Checks.due("move(3, 1)", spines.move(3, 1), 2);
        Checks.due("to ahead", Steps.block(spines), "0 1- 2 3 4");
        spines.flip(1);
        Checks.due("move(4, 0)", spines.move(4, 0), 1);
        Checks.due("to the front", Steps.block(spines), "4 0 1 2 3");
        Checks.due("move(0, 4)", spines.move(0, 4), 0);
        Steps.undoable(spines, "move(2, 2)", () -> spines.move(2, 2));
        Checks.refused(spines, "move(5, 0)", Steps.BOUNDS, () -> spines.move(5, 0));
        Checks.refused(spines, "move(0, 5)", Steps.BOUNDS, () -> spines.move(0, 5));
        Checks.refused(spines, "move(-1, 0)", Steps.BOUNDS, () -> spines.move(-1, 0));
        Checks.refused(spines, "move(0, -1)", Steps.BOUNDS, () -> spines.move(0, -1));
        SteppedSpines empty = new SteppedSpines();
        Checks.refused(empty, "move(0, 0) without sheets", Steps.BOUNDS, () -> empty.move(0, 0));
    }

    private static void bind() {
        SteppedSpines spines = Steps.bookOf(3, 0, 1, 2);
        Steps.undoable(spines, "bind()", spines::bind);
        Checks.due("bind()", spines.bind(), 1);
        Checks.due("the block", spines.count(0), 0);
        Checks.due("bin(1, 0)", spines.bin(1, 0), 1);
        Checks.due("bin(1, 1)", spines.bin(1, 1), 0);
        Checks.due("bin(1, 2)", spines.bin(1, 2), 1);
        Checks.due("bin(3, 2)", spines.bin(3, 2), 0);
        Steps.gather(spines, 0, 1, 2);
        Checks.due("bind()", spines.bind(), 2);
        Checks.due("bin(2, 2)", spines.bin(2, 2), 2);
        Checks.due("sheets in books", spines.count(13), 6);
        Checks.due("books", spines.count(12), 2);
    }

    private static void bindRefuses() {
        refusedBlock(Steps.bookOf(3), 1);
        SteppedSpines turned = Steps.bookOf(3, 0, 1, 2);
        turned.flip(1);
        refusedBlock(turned, 2);
        refusedBlock(Steps.bookOf(3, 0, 1, 3), 3);
        refusedBlock(Steps.bookOf(3, 0, 1, 1), 4);
        refusedBlock(Steps.bookOf(3, 0, 1), 5);
        refusedBlock(Steps.bookOf(3, 0, 2, 1), 6);
    }

    private static void refusedBlock(SteppedSpines spines, int fault) {
        Checks.due("fault", spines.count(2), fault);
        Checks.refused(spines, "bind() with fault " + fault, Steps.STATE, spines::bind);
    }

    private static void print() {
        SteppedSpines spines = Steps.gathered(0);
        Checks.due("print(0, 1)", spines.print(0, 1), 2);
        Checks.due("print(0, 20)", spines.print(0, 20), 22);
        Checks.due("bin(0, 3)", spines.bin(0, 3), 23);
        Checks.due("print(15, 20)", spines.print(15, 20), 22);
        Steps.undoable(spines, "print(0, 7)", () -> spines.print(0, 7));
        Checks.refused(spines, "print(16, 0)", Steps.BOUNDS, () -> spines.print(16, 0));
        Checks.refused(spines, "print(-1, 5)", Steps.BOUNDS, () -> spines.print(-1, 5));
        Checks.refused(spines, "print(0, 0)", Steps.ARGUMENT, () -> spines.print(0, 0));
        Checks.refused(spines, "print(0, 21)", Steps.ARGUMENT, () -> spines.print(0, 21));
        Checks.refused(spines, "print(0, max)", Steps.ARGUMENT, () -> spines.print(0, Integer.MAX_VALUE));
        Checks.due("print(0, 20)", spines.print(0, 20), 42);
        Checks.due("print(0, 20)", spines.print(0, 20), 62);
        Checks.due("print(0, 20)", spines.print(0, 20), 82);
        Checks.refused(spines, "print(0, 18)", Steps.STATE, () -> spines.print(0, 18));
        Checks.due("print(0, 17)", spines.print(0, 17), 99);
        Checks.refused(spines, "print(0, 1)", Steps.STATE, () -> spines.print(0, 1));
        Checks.refused(spines, "print(0, 21) into a full bin", Steps.ARGUMENT, () -> spines.print(0, 21));
        Checks.due("pull(0)", spines.pull(0), 0);
        Checks.due("a sheet pulled into a full bin", spines.bin(0, 0), 100);
    }

    private static void punch() {
        SteppedSpines spines = Steps.gathered(2, 3);
        Steps.undoable(spines, "punch(2, 9)", () -> spines.punch(2, 9));
        Checks.due("punch(2, 9)", spines.punch(2, 9), 31);
        Checks.due("punch(2, 1)", spines.punch(2, 1), 9);
        Checks.due("bin(2, 4)", spines.bin(2, 4), 1);
        Checks.due("the sheet in the block, too", spines.count(9), 1);
        Checks.due("punch(2, 31)", spines.punch(2, 31), 1);
        Checks.refused(spines, "punch(16, 0)", Steps.BOUNDS, () -> spines.punch(16, 0));
        Checks.refused(spines, "punch(-1, 5)", Steps.BOUNDS, () -> spines.punch(-1, 5));
        Checks.refused(spines, "punch(2, 0)", Steps.ARGUMENT, () -> spines.punch(2, 0));
        Checks.refused(spines, "punch(2, 32)", Steps.ARGUMENT, () -> spines.punch(2, 32));
    }

    private static void set() {
        SteppedSpines spines = new SteppedSpines();
        int[] least = {1, 2, 1};
        int[] most = {16, 8, 9};
        int[] first = {8, 5, 2};
        for (int i = 0; i < 3; i++) {
            int which = i;
            Steps.undoable(spines, "set " + i, () -> spines.set(which, most[which]));
            Steps.undoable(spines, "set " + i + " to what it is", () -> spines.set(which, first[which]));
            Checks.due("set to the least", spines.set(i, least[i]), first[i]);
            Checks.due("set to the most", spines.set(i, most[i]), least[i]);
            Checks.due("setting", spines.setting(i), most[i]);
            Checks.refused(spines, "set below", Steps.ARGUMENT, () -> spines.set(which, least[which] - 1));
            Checks.refused(spines, "set above", Steps.ARGUMENT, () -> spines.set(which, most[which] + 1));
        }
        Checks.refused(spines, "set(3, 2)", Steps.BOUNDS, () -> spines.set(3, 2));
        Checks.refused(spines, "set(-1, 2)", Steps.BOUNDS, () -> spines.set(-1, 2));
        Checks.refused(spines, "set(3, 0)", Steps.BOUNDS, () -> spines.set(3, 0));
    }
}
