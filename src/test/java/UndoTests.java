/** What undo() and goBack() restore, what they leave, and what saves a state. */
final class UndoTests {
    private UndoTests() {
    }

    static void runAll() {
        Checks.test("undo: each call that is marked undoable (promises 2 to 10, 14 and 16)", UndoTests::undoable);
        Checks.test("undo: calls that change nothing (promises 6, 9, 10, 14 and 16)", UndoTests::undoableWithoutChange);
        Checks.test("undo: calls that save no state (promises 11 to 13, 15 and 18 to 28)", UndoTests::notUndoable);
        Checks.test("undo: all is restored (promise 17)", UndoTests::allIsRestored);
        Checks.test("undo: the buffer and the snapshot are left (promise 17)", UndoTests::left);
        Checks.test("undo: no, six and seven saved states (promises 17 and 20)", UndoTests::sixStates);
        Checks.test("undo: calls behind an undo (promise 17)", UndoTests::callsBehindUndo);
        Checks.test("undo: saved states stand by themselves (promise 17)", UndoTests::savedStatesStand);
        Checks.test("snapshot: none, one, and a second one (promises 15 and 16)", UndoTests::snapshots);
        Checks.test("snapshot: all is kept (promises 15 and 16)", UndoTests::allIsKept);
        Checks.test("snapshot: the snapshot stands by itself (promises 15 and 16)", UndoTests::snapshotStands);
        Checks.test("snapshot: the saved states are left (promises 15 and 16)", UndoTests::goBackSaves);
    }

    /** With less than six states and with six of them, the call saves the state from before it. */
    private static void saves(Steps.Maker maker, String name, Steps.Calls call) {
        SteppedSpines spines = maker.make();
        long before = spines.digest();
        int saved = spines.count(15);
        call.on(spines);
        Checks.due(name + " saves a state", spines.count(15), saved + 1);
        Checks.due("undo of " + name, spines.undo(), saved);
        Checks.due("the state before " + name, spines.digest(), before);
        SteppedSpines six = maker.make();
        for (int i = saved; i < 6; i++) {
            six.set(2, 2);
        }
        String sheets = Steps.block(six);
        call.on(six);
        Checks.due(name + " as the seventh", six.count(15), 6);
        Checks.due("undo of the seventh " + name, six.undo(), 5);
        Checks.due("the block before " + name, Steps.block(six), sheets);
    }

    private static SteppedSpines book() {
        SteppedSpines spines = Steps.bookOf(3, 0, 1, 2);
        spines.keep();
        Steps.type(spines, "f0;b");
        return spines;
    }

    private static void undoable() {
        saves(SteppedSpines::new, "gather", spines -> spines.gather(0));
        saves(UndoTests::book, "gather", spines -> spines.gather(15));
        saves(UndoTests::book, "insert", spines -> spines.insert(1, 9));
        saves(UndoTests::book, "pull", spines -> spines.pull(2));
        saves(UndoTests::book, "flip", spines -> spines.flip(0));
        saves(UndoTests::book, "move", spines -> spines.move(0, 2));
        saves(UndoTests::book, "bind", SteppedSpines::bind);
        saves(UndoTests::book, "print", spines -> spines.print(3, 20));
        saves(UndoTests::book, "punch", spines -> spines.punch(1, 4));
        saves(UndoTests::book, "set", spines -> spines.set(1, 8));
        savesWithoutBuffer("work", SteppedSpines::work);
        saves(() -> {
            SteppedSpines spines = Steps.bookOf(3, 0, 1);
            spines.keep();
            spines.pull(0);
            return spines;
        }, "goBack", SteppedSpines::goBack);
    }

    /** The buffer is cleared by work(), and that is not undone. */
    private static void savesWithoutBuffer(String name, Steps.Calls call) {
        SteppedSpines spines = book();
        call.on(spines);
        Checks.due(name + " saves a state", spines.count(15), 5);
        Checks.due("undo of " + name, spines.undo(), 4);
        SteppedSpines due = book();
        due.clearBuffer();
        Checks.due("the state before " + name, Steps.story(spines), Steps.story(due));
    }

    private static void undoableWithoutChange() {
        saves(UndoTests::book, "move to its own place", spines -> spines.move(1, 1));
        saves(UndoTests::book, "punch of the same holes", spines -> spines.punch(15, 31));
        saves(UndoTests::book, "set to the same value", spines -> spines.set(0, 3));
        saves(UndoTests::book, "goBack to the same state", SteppedSpines::goBack);
        saves(SteppedSpines::new, "punch of a new object", spines -> spines.punch(0, 31));
        SteppedSpines spines = new SteppedSpines();
        Checks.due("work that does nothing", Steps.work(spines, "b"), 0);
        Checks.due("it saves a state", spines.count(15), 1);
        Checks.due("work that does nothing again", Steps.work(spines, "b"), 0);
        Checks.due("it saves a state", spines.count(15), 2);
        spines.undo();
        Checks.due("the stop of the first", spines.count(14), 0);
        spines.undo();
        Checks.due("no stop", spines.count(14), -1);
    }

    private static void notUndoable() {
        SteppedSpines spines = Steps.gathered(0, 1);
        spines.append('b');
        spines.firstError();
        spines.clearBuffer();
        spines.clearBuffer();
        spines.keep();
        spines.keep();
        spines.digest();
        spines.nextMove();
        spines.ifPulled(0, 1);
        Checks.due("saved states", spines.count(15), 2);
        spines.undo();
        Checks.due("saved states behind undo", spines.count(15), 1);
        Checks.due("the block", Steps.block(spines), "0");
        for (int i = 0; i < 6; i++) {
            spines.flip(0);
        }
        spines.append('b');
        spines.clearBuffer();
        spines.keep();
        Checks.due("saved states", spines.count(15), 6);
    }

    /** Each of another kind; the work is done whole, behind one that stopped. */
    private static final Steps.Calls[] CHANGES = {
        spines -> Steps.work(spines, "f1;p0;b;g7;g15;m1>0"),
        spines -> spines.punch(3, 9),
        spines -> spines.print(12, 9),
        spines -> spines.set(1, 8),
        spines -> spines.set(0, 16),
        spines -> spines.goBack(),
    };

    private static SteppedSpines changed(int changes) {
        SteppedSpines spines = Steps.bookOf(2, 0, 1);
        spines.bind();
        Steps.gather(spines, 7, 0, 1);
        spines.keep();
        spines.flip(1);
        Steps.work(spines, "b;g3");
        for (int i = 0; i < changes; i++) {
            CHANGES[i].on(spines);
        }
        return spines;
    }

    private static void allIsRestored() {
        Checks.due("the stop at first", changed(0).count(14), 0);
        Checks.due("books behind the work", changed(1).count(12), 2);
        Checks.due("the stop behind the work", changed(1).count(14), -1);
        for (int undone = 1; undone <= 6; undone++) {
            SteppedSpines spines = changed(6);
            for (int i = 1; i <= undone; i++) {
                Checks.due("undo", spines.undo(), 6 - i);
            }
            Checks.due("the state behind undos: " + undone, all(spines), all(changed(6 - undone)));
        }
    }

    /** All that a state holds. */
    private static String all(SteppedSpines spines) {
        StringBuilder text = new StringBuilder(Steps.block(spines)).append(" bins");
        for (int number = 0; number < 16; number++) {
            for (int what = 0; what < 5; what++) {
                text.append(' ').append(spines.bin(number, what));
            }
        }
        text.append(" settings ").append(spines.setting(0)).append(spines.setting(1)).append(spines.setting(2));
        text.append(" books ").append(spines.count(12)).append(" sheets ").append(spines.count(13));
        return text.append(" stop ").append(spines.count(14)).toString();
    }

    private static void left() {
        SteppedSpines spines = new SteppedSpines();
        spines.gather(3);
        Steps.type(spines, "g1;");
        spines.keep();
        spines.gather(4);
        Steps.type(spines, "b");
        Checks.due("undo", spines.undo(), 1);
        Checks.due("undo", spines.undo(), 0);
        Checks.due("the buffer is left", spines.clearBuffer(), 4);
        Checks.due("the snapshot is left", spines.goBack(), 1);
        Checks.due("the block", Steps.block(spines), "3");
        Steps.type(spines, "g1");
        Checks.due("work", spines.work(), 1);
        Checks.due("undo", spines.undo(), 1);
        Checks.due("the buffer stays clear", spines.clearBuffer(), 0);
    }

    private static void sixStates() {
        SteppedSpines spines = new SteppedSpines();
        Checks.due("saved states at first", spines.count(15), 0);
        Checks.refused(spines, "undo at first", Steps.STATE, spines::undo);
        for (int i = 1; i <= 6; i++) {
            spines.print(0, i);
            Checks.due("saved states", spines.count(15), i);
        }
        for (int left = 5; left >= 0; left--) {
            Checks.due("undo", spines.undo(), left);
            Checks.due("copies", spines.bin(0, 0), 2 + left * (left + 1) / 2);
        }
        Checks.due("all is undone, to the new object", spines.digest(), new SteppedSpines().digest());
        Checks.refused(spines, "undo of none", Steps.STATE, spines::undo);
        for (int i = 1; i <= 20; i++) {
            spines.print(1, 1);
            Checks.due("saved states", spines.count(15), Math.min(6, i));
        }
        for (int left = 5; left >= 0; left--) {
            Checks.due("undo", spines.undo(), left);
            Checks.due("copies", spines.bin(1, 0), 16 + left);
        }
        Checks.refused(spines, "undo of the oldest, which is dropped", Steps.STATE, spines::undo);
    }

    private static void callsBehindUndo() {
        SteppedSpines spines = new SteppedSpines();
        for (int number = 0; number < 7; number++) {
            spines.gather(number);
        }
        spines.undo();
        spines.undo();
        Checks.due("gather behind two undos", spines.gather(9), 6);
        Checks.due("saved states", spines.count(15), 5);
        spines.flip(0);
        spines.flip(1);
        Checks.due("saved states", spines.count(15), 6);
        String[] due = {"0 1", "0 1 2", "0 1 2 3", "0 1 2 3 4", "0 1 2 3 4 9", "0- 1 2 3 4 9"};
        for (int left = 5; left >= 0; left--) {
            Checks.due("undo", spines.undo(), left);
            Checks.due("the block", Steps.block(spines), due[left]);
        }
        Checks.refused(spines, "undo of none", Steps.STATE, spines::undo);
    }

    private static void savedStatesStand() {
        SteppedSpines spines = Steps.gathered(5, 6);
        spines.punch(5, 3);
        String due = all(spines);
        for (int i = 0; i < 3; i++) {
            spines.flip(0);
            spines.punch(5, 4 + i);
            spines.move(0, 1);
            spines.print(6, 1);
            for (int j = 0; j < 4; j++) {
                Checks.due("undo", spines.undo() > 0 ? 1 : 0, 1);
            }
            Checks.due("the state", all(spines), due);
        }
    }

    private static void snapshots() {
        SteppedSpines spines = Steps.gathered(8);
        Checks.refused(spines, "goBack without a snapshot", Steps.STATE, spines::goBack);
        Checks.due("keep", spines.keep(), 1);
        Checks.due("gather", spines.gather(9), 2);
        Checks.due("goBack", spines.goBack(), 1);
        Checks.due("keep in place of it", spines.keep(), 1);
        spines.gather(1);
        spines.gather(2);
        Checks.due("a second snapshot", spines.keep(), 3);
        spines.pull(0);
        Checks.due("goBack to the second", spines.goBack(), 3);
        Checks.due("the block", Steps.block(spines), "8 1 2");
        for (int i = 0; i < 6; i++) {
            spines.undo();
        }
        Checks.due("goBack behind all undos", spines.goBack(), 3);
        SteppedSpines empty = new SteppedSpines();
        Checks.due("keep of no sheets", empty.keep(), 0);
        Checks.due("goBack to no sheets, of the same", empty.goBack(), 0);
        empty.gather(3);
        Checks.due("goBack to no sheets", empty.goBack(), 0);
        Checks.due("the bin", empty.bin(3, 0), 2);
        SteppedSpines full = Steps.fullBlock();
        Checks.due("keep of 20 sheets", full.keep(), 20);
        full.pull(0);
        Checks.due("goBack to 20 sheets", full.goBack(), 20);
    }

    private static void allIsKept() {
        SteppedSpines spines = Steps.rich();
        spines.keep();
        String due = all(spines);
        spines.clearBuffer();
        Checks.due("a work that stops", Steps.work(spines, "p0;p0;p0;g0;g1;b;g9;f0;g9;p5"), 9);
        spines.pull(0);
        spines.punch(3, 9);
        spines.punch(15, 9);
        spines.print(12, 9);
        spines.print(5, 1);
        spines.set(0, 16);
        spines.set(1, 8);
        spines.set(2, 9);
        Steps.type(spines, "g1");
        Checks.due("goBack", spines.goBack(), 3);
        Checks.due("all", all(spines), due);
        Checks.due("the buffer is left", spines.clearBuffer(), 2);
        Checks.due("undo", spines.undo(), 5);
        Checks.due("the setting before goBack", spines.setting(2), 9);
    }

    private static void snapshotStands() {
        SteppedSpines spines = Steps.gathered(5, 6);
        spines.keep();
        String due = all(spines);
        for (int i = 0; i < 3; i++) {
            spines.flip(i % 2);
            spines.move(0, 1);
            spines.gather(6 + i);
            spines.punch(5, 4);
            spines.print(5, 3);
            spines.set(i % 3, 5);
            Checks.due("goBack", spines.goBack(), 2);
            Checks.due("the state", all(spines), due);
        }
    }

    private static void goBackSaves() {
        SteppedSpines spines = Steps.gathered(1, 2, 3);
        spines.keep();
        Checks.due("saved states are not kept", spines.count(15), 3);
        spines.undo();
        spines.undo();
        Checks.due("goBack", spines.goBack(), 3);
        Checks.due("saved states", spines.count(15), 2);
        Checks.due("undo of goBack", spines.undo(), 1);
        Checks.due("the block", Steps.block(spines), "1");
        Checks.due("undo of the first gather", spines.undo(), 0);
        Checks.due("the block", Steps.block(spines), "");
        Checks.due("goBack", spines.goBack(), 3);
        for (int i = 0; i < 6; i++) {
            spines.goBack();
        }
        Checks.due("saved states of seven", spines.count(15), 6);
        for (int left = 5; left >= 0; left--) {
            Checks.due("undo", spines.undo(), left);
            Checks.due("the block", Steps.block(spines), "1 2 3");
        }
        Checks.refused(spines, "undo of none", Steps.STATE, spines::undo);
    }
}
