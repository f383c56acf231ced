/** Promises 11 to 17: the buffer, work as a text, the snapshot and undo. */
final class TextTests {
    private TextTests() {
    }

    static void runAll() {
        Checks.test("promise 11: append", TextTests::append);
        Checks.test("promise 12: clearBuffer", TextTests::clearBuffer);
        Checks.test("promise 13: firstError", TextTests::firstError);
        Checks.test("promise 14: work", TextTests::work);
        Checks.test("promise 14: work stops", TextTests::workStops);
        Checks.test("promise 14: work refuses", TextTests::workRefuses);
        Checks.test("promise 15: keep", TextTests::keep);
        Checks.test("promise 16: goBack", TextTests::goBack);
        Checks.test("promise 17: undo", TextTests::undo);
        Checks.test("promise 17: undo of seven", TextTests::undoOfSeven);
    }

    private static void append() {
        SteppedSpines spines = new SteppedSpines();
        Checks.due("append(33)", spines.append(33), 1);
        Checks.due("append(126)", spines.append(126), 2);
        Checks.refused(spines, "append(32)", Steps.ARGUMENT, () -> spines.append(32));
        Checks.refused(spines, "append(127)", Steps.ARGUMENT, () -> spines.append(127));
        Checks.refused(spines, "append(-1)", Steps.ARGUMENT, () -> spines.append(-1));
        for (int i = 3; i <= 60; i++) {
            Checks.due("append(103)", spines.append(103), i);
        }
        Checks.refused(spines, "append(103) to a full buffer", Steps.STATE, () -> spines.append(103));
        Checks.refused(spines, "append(32) to a full buffer", Steps.ARGUMENT, () -> spines.append(32));
        Checks.due("append() saves no state", spines.count(15), 0);
    }

    private static void clearBuffer() {
        SteppedSpines spines = new SteppedSpines();
        Checks.due("clearBuffer()", spines.clearBuffer(), 0);
        Steps.type(spines, "g1;x");
        Checks.due("clearBuffer()", spines.clearBuffer(), 4);
        Checks.due("clearBuffer()", spines.clearBuffer(), 0);
        Checks.due("append() behind it", spines.append('b'), 1);
        Checks.due("clearBuffer() saves no state", spines.count(15), 0);
        Steps.type(spines, ";");
        spines.gather(0);
        spines.undo();
        Checks.due("undo() leaves the buffer", spines.clearBuffer(), 2);
    }

    private static void firstError() {
        errorAt("", 0);
        errorAt("g0;p19;f10;m0>19;b", 18);
        errorAt("b;b", 3);
        errorAt("g15", 3);
        errorAt("g16", 2);
        errorAt("g9", 2);
        errorAt("g20", 2);
        errorAt("p19", 3);
        errorAt("p20", 2);
        errorAt("p100", 3);
        errorAt("f01", 2);
        errorAt("f00", 2);
        errorAt("m1", 2);
        errorAt("m1;", 2);
        errorAt("m19>", 4);
        errorAt("m19>>", 4);
        errorAt("m19>19;", 7);
        errorAt("m1>2>3", 4);
        errorAt("m1>02", 4);
        errorAt("m20", 2);
        errorAt("g1>2", 2);
        errorAt("g;", 1);
        errorAt("gb", 1);
        errorAt(";", 0);
        errorAt("b;;", 2);
        errorAt("b0", 1);
        errorAt("0", 0);
        errorAt("x", 0);
        errorAt("G", 0);
        errorAt("g1;m3>x;x", 6);
        errorAt("m3>1;m3;b", 7);
        errorAt("m1>1;g1>1", 7);
        errorAt("p1!", 2);
        errorAt("p1/", 2);
        errorAt("p1:", 2);
        errorAt("f!", 1);
        errorAt("f:", 1);
        errorAt("b,b", 1);
        SteppedSpines spines = new SteppedSpines();
        Steps.type(spines, "g1;gg");
        spines.firstError();
        Checks.due("firstError() leaves the buffer", spines.clearBuffer(), 5);
        Steps.type(spines, "g1;g2;g3;g4;g5;g6;g7;g8;g9;g1;g2;g3;g4;g5;g6;g7;g8;g9;g1;g2;");
        Checks.due("firstError() of a full buffer that is not at its end", spines.firstError(), 60);
    }

    private static void errorAt(String text, int due) {
        SteppedSpines spines = new SteppedSpines();
        Steps.type(spines, text);
        Checks.due("firstError() of " + text, spines.firstError(), due);
    }

    private static void work() {
        SteppedSpines spines = new SteppedSpines();
        spines.set(0, 2);
        Checks.due("work()", Steps.work(spines, "g10;g0;g1;p0;m1>0;f0;m0>1"), 7);
        Checks.due("the block", Steps.block(spines), "0 1-");
        Checks.due("the stop", spines.count(14), -1);
        Checks.due("the buffer", spines.clearBuffer(), 0);
        Checks.due("saved states", spines.count(15), 2);
        Steps.undoable(spines, "work()", () -> Steps.work(spines, "f1;b;g1;g0;m1>0;b"));
        Checks.due("work()", Steps.work(spines, "f1;b;g1;g0;m1>0;b"), 6);
        Checks.due("books", spines.count(12), 2);
        Checks.due("sheets in books", spines.count(13), 4);
        Checks.due("a part more", Steps.work(spines, "g15"), 1);
        Checks.due("the block", Steps.block(spines), "15");
    }

    private static void workStops() {
        stopsAt("g3;g3;g3;g4", 2, "3 3");
        stopsAt("g3;p1", 1, "3");
        stopsAt("p0", 0, "");
        stopsAt("f0", 0, "");
        stopsAt("g3;f1;g4", 1, "3");
        stopsAt("g3;m0>1", 1, "3");
        stopsAt("g3;m1>0", 1, "3");
        stopsAt("g3;b;g4", 1, "3");
        stopsAt("b", 0, "");
        SteppedSpines full = Steps.fullBlock();
        full.pull(0);
        Checks.due("work() to a full block", Steps.work(full, "g10;g11;p0"), 1);
        Checks.due("the stop", full.count(14), 1);
        SteppedSpines spines = new SteppedSpines();
        Steps.undoable(spines, "work() that does nothing", () -> Steps.work(spines, "b"));
        Steps.work(spines, "g1;b");
        Checks.due("the stop stays", spines.gather(2) - 2 + spines.count(14), 1);
        Steps.undoable(spines, "work() without a stop", () -> Steps.work(spines, "g1"));
        Checks.due("the stop is back", spines.count(14), 1);
        Steps.work(spines, "g1;f0");
        Checks.due("no stop, when all parts are done", spines.count(14), -1);
    }

    private static void stopsAt(String text, int due, String block) {
        SteppedSpines spines = new SteppedSpines();
        Checks.due("work() of " + text, Steps.work(spines, text), due);
        Checks.due("the stop of " + text, spines.count(14), due);
        Checks.due("the block of " + text, Steps.block(spines), block);
        Checks.due("the buffer behind " + text, spines.clearBuffer(), 0);
        Checks.due("saved states behind " + text, spines.count(15), 1);
    }

    private static void workRefuses() {
        for (String text : new String[] {"", "g", "g1;", "m1", "m1>", "b;", "x", "g1;x", "g1;g16", "bb", "p"}) {
            SteppedSpines spines = Steps.gathered(4, 5);
            Steps.type(spines, text);
            Checks.refused(spines, "work() of " + text, Steps.ARGUMENT, spines::work);
            Checks.due("the buffer is left", spines.clearBuffer(), text.length());
        }
    }

    private static void keep() {
        SteppedSpines spines = Steps.gathered(4, 5);
        Checks.due("keep()", spines.keep(), 2);
        Checks.due("keep() saves no state", spines.count(15), 2);
        spines.pull(0);
        Checks.due("keep() in place of the one that was", spines.keep(), 1);
        spines.gather(9);
        spines.goBack();
        Checks.due("the block", Steps.block(spines), "5");
        Checks.due("keep() of an empty block", new SteppedSpines().keep(), 0);
    }

    private static void goBack() {
        SteppedSpines spines = Steps.gathered(4, 5);
        Checks.refused(spines, "goBack() without a snapshot", Steps.STATE, spines::goBack);
        Steps.work(spines, "g6;b");
        spines.flip(0);
        spines.punch(4, 3);
        spines.print(4, 3);
        spines.keep();
        spines.set(2, 9);
        Steps.work(spines, "p0;p0;p0");
        spines.punch(4, 7);
        spines.print(4, 3);
        Steps.type(spines, "b;");
        Steps.undoable(spines, "goBack()", spines::goBack);
        Checks.due("goBack()", spines.goBack(), 3);
        Checks.due("the block", Steps.block(spines), "4- 5 6");
        Checks.due("the setting", spines.setting(2), 2);
        Checks.due("the stop", spines.count(14), 1);
        Checks.due("the bin", spines.bin(4, 0), 4);
        Checks.due("the holes", spines.bin(4, 4), 3);
        Checks.due("printed", spines.bin(4, 3), 5);
        spines.pull(0);
        Checks.due("the snapshot stays", spines.goBack(), 3);
        Checks.due("the buffer stays", spines.clearBuffer(), 2);
    }

    private static void undo() {
        SteppedSpines spines = new SteppedSpines();
        Checks.refused(spines, "undo() without a saved state", Steps.STATE, spines::undo);
        spines.set(0, 1);
        spines.gather(0);
        spines.keep();
        spines.bind();
        Checks.due("undo()", spines.undo(), 2);
        Checks.due("books", spines.count(12), 0);
        Checks.due("in books", spines.bin(0, 2), 0);
        Checks.due("the block", Steps.block(spines), "0");
        Checks.due("undo()", spines.undo(), 1);
        Checks.due("undo()", spines.undo(), 0);
        Checks.refused(spines, "undo() again", Steps.STATE, spines::undo);
        Checks.due("the snapshot stays", spines.goBack(), 1);
        Checks.due("undo()", spines.undo(), 0);
        Checks.due("the block", spines.count(0), 0);
    }

    private static void undoOfSeven() {
        SteppedSpines spines = new SteppedSpines();
        for (int number = 0; number < 9; number++) {
            spines.gather(number);
            Checks.due("saved states", spines.count(15), Math.min(6, number + 1));
        }
        for (int left = 5; left >= 0; left--) {
            Checks.due("undo()", spines.undo(), left);
            Checks.due("sheets", spines.count(0), 3 + left);
            Checks.due("the last sheet", spines.sheet(2 + left, 0), 2 + left);
        }
        Checks.refused(spines, "undo() of the dropped", Steps.STATE, spines::undo);
    }
}
