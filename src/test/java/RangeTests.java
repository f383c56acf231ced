/** Each number that a call takes, at the ends of its range and between them; the values stand there by themselves. */
final class RangeTests {
    private RangeTests() {
    }

    static void runAll() {
        Checks.test("range: each bin holds 2 copies at first (promises 1 and 2)", RangeTests::eachBin);
        Checks.test("range: a block of 19, 20 and 21 sheets (promises 2 and 3)", RangeTests::twentySheets);
        Checks.test("range: each place to insert at (promise 3)", RangeTests::placesToInsert);
        Checks.test("range: each place to pull (promise 4)", RangeTests::placesToPull);
        Checks.test("range: each place to flip (promise 5)", RangeTests::placesToFlip);
        Checks.test("range: each move (promise 6)", RangeTests::eachMove);
        Checks.test("range: books of 1 to 16 sheets (promise 7)", RangeTests::booksOfEachSize);
        Checks.test("range: 1 to 20 copies (promise 8)", RangeTests::copies);
        Checks.test("range: a bin of 99 copies (promise 8)", RangeTests::fullBin);
        Checks.test("range: each mask of holes (promise 9)", RangeTests::holes);
        Checks.test("range: each value of a setting (promises 10 and 21)", RangeTests::settings);
        Checks.test("range: each character code (promise 11)", RangeTests::codes);
        Checks.test("range: a buffer of 0 to 60 characters (promises 11 and 12)", RangeTests::bufferLengths);
        Checks.test("range: looks of a block without sheets (promises 18 to 27)", RangeTests::noSheets);
        Checks.test("range: looks of a block with one sheet (promises 18 to 27)", RangeTests::oneSheet);
        Checks.test("range: looks of a falling block of 20 (promises 18 to 27)", RangeTests::fallingTwenty);
        Checks.test("range: looks of a rising block of 20 (promises 18 to 27)", RangeTests::risingTwenty);
        Checks.test("range: looks change nothing (promises 18 to 28)", RangeTests::looksChangeNothing);
    }

    private static void eachBin() {
        for (int bin = 0; bin < 16; bin++) {
            int number = bin;
            SteppedSpines spines = new SteppedSpines();
            Checks.due("gather " + bin, spines.gather(bin), 1);
            Checks.due("copies left in " + bin, spines.bin(bin, 0), 1);
            Checks.due("insert " + bin, spines.insert(0, bin), 2);
            Checks.due("copies left in " + bin, spines.bin(bin, 0), 0);
            Checks.due("the block", Steps.block(spines), bin + " " + bin);
            Checks.refused(spines, "gather " + bin, Steps.STATE, () -> spines.gather(number));
            Checks.refused(spines, "insert " + bin, Steps.STATE, () -> spines.insert(1, number));
            Checks.due("print into an empty bin " + bin, spines.print(bin, 1), 1);
            Checks.due("gather " + bin, spines.gather(bin), 3);
            Checks.refused(spines, "gather " + bin, Steps.STATE, () -> spines.gather(number));
            Checks.due("pull from " + bin, spines.pull(2), bin);
            Checks.due("copies in " + bin, spines.bin(bin, 0), 1);
            Checks.due("copies of the bin beside it", spines.bin((bin + 1) % 16, 0), 2);
        }
    }

    private static void twentySheets() {
        SteppedSpines spines = new SteppedSpines();
        for (int i = 0; i < 18; i++) {
            Checks.due("gather", spines.gather(i / 2), i + 1);
        }
        Checks.due("insert of the 19th at the front", spines.insert(0, 9), 19);
        Checks.due("insert of the 20th behind the block", spines.insert(19, 10), 20);
        Checks.refused(spines, "gather of the 21st", Steps.STATE, () -> spines.gather(11));
        Checks.refused(spines, "insert of the 21st", Steps.STATE, () -> spines.insert(7, 11));
        Checks.due("pull", spines.pull(0), 9);
        Checks.due("gather of the 20th", spines.gather(11), 20);
        Checks.due("the block", Steps.block(spines), "0 0 1 1 2 2 3 3 4 4 5 5 6 6 7 7 8 8 10 11");
        Checks.due("pull of the last", spines.pull(19), 11);
        Checks.due("insert of the 20th at the front", spines.insert(0, 11), 20);
        Checks.due("the block", Steps.block(spines), "11 0 0 1 1 2 2 3 3 4 4 5 5 6 6 7 7 8 8 10");
    }

    private static void placesToInsert() {
        for (int place = 0; place <= 3; place++) {
            SteppedSpines spines = Steps.gathered(1, 2, 3);
            spines.flip(1);
            Checks.due("insert at " + place, spines.insert(place, 9), 4);
            String[] due = {"9 1 2- 3", "1 9 2- 3", "1 2- 9 3", "1 2- 3 9"};
            Checks.due("the block", Steps.block(spines), due[place]);
        }
    }

    private static void placesToPull() {
        String[] due = {"2- 3", "1 3", "1 2-"};
        for (int place = 0; place < 3; place++) {
            SteppedSpines spines = Steps.gathered(1, 2, 3);
            spines.flip(1);
            Checks.due("pull " + place, spines.pull(place), place + 1);
            Checks.due("the block", Steps.block(spines), due[place]);
            Checks.due("the bin", spines.bin(place + 1, 0), 2);
        }
        SteppedSpines full = Steps.fullBlock();
        Checks.due("pull 19 of 20", full.pull(19), 9);
        Checks.due("pull 18 of 19", full.pull(18), 8);
        Checks.due("sheets", full.count(0), 18);
    }

    private static void placesToFlip() {
        SteppedSpines spines = Steps.fullBlock();
        for (int place = 0; place < 20; place++) {
            Checks.due("flip " + place, spines.flip(place), 4 - place % 10 % 5);
            Checks.due("it lies upside down", spines.sheet(place, 1), 1);
            Checks.due("the step of its mark", spines.sheet(place, 2), 4 - place % 10 % 5);
            Checks.due("flip back " + place, spines.flip(place), place % 10 % 5);
            Checks.due("it lies right", spines.sheet(place, 1), 0);
        }
    }

    private static void eachMove() {
        for (int from = 0; from < 20; from++) {
            SteppedSpines spines = Steps.fullBlock();
            spines.flip(from);
            for (int to = 0; to < 20; to++) {
                int[] numbers = numbers(spines);
                int breaks = spines.move(from, to);
                Checks.due("breaks that move() tells", breaks, spines.count(1));
                Checks.due("it has the place " + to, spines.sheet(to, 1), 1);
                Checks.due("sheets", spines.count(0), 20);
                for (int place = 0; place < 19; place++) {
                    Checks.due("the others stay in order", spines.sheet(place < to ? place : place + 1, 0),
                            numbers[place < from ? place : place + 1]);
                }
                Checks.due("its number", spines.sheet(to, 0), numbers[from]);
                spines = Steps.fullBlock();
                spines.flip(from);
            }
        }
        SteppedSpines one = Steps.gathered(3);
        Checks.due("move(0, 0) of one sheet", one.move(0, 0), 1);
        Checks.due("the block", Steps.block(one), "3");
    }

    private static int[] numbers(SteppedSpines spines) {
        int[] numbers = new int[spines.count(0)];
        for (int place = 0; place < numbers.length; place++) {
            numbers[place] = spines.sheet(place, 0);
        }
        return numbers;
    }

    private static void booksOfEachSize() {
        for (int size = 1; size <= 16; size++) {
            SteppedSpines spines = new SteppedSpines();
            spines.set(0, size);
            for (int number = 0; number < size; number++) {
                Checks.refused(spines, "bind ahead of the sheet " + number, Steps.STATE, spines::bind);
                spines.gather(number);
            }
            Checks.due("bind of " + size, spines.bind(), 1);
            Checks.due("sheets of the block", spines.count(0), 0);
            Checks.due("sheets in books", spines.count(13), size);
            Checks.due("its last sheet in books", spines.bin(size - 1, 2), 1);
            Checks.due("its last sheet in the bin", spines.bin(size - 1, 0), 1);
            Checks.due("its last sheet printed", spines.bin(size - 1, 3), 2);
            Checks.due("the sheet behind it in books", spines.bin(size % 16, 2), size == 16 ? 1 : 0);
        }
    }

    private static void copies() {
        for (int copies = 1; copies <= 20; copies++) {
            SteppedSpines spines = Steps.gathered(4);
            int number = copies % 2 == 0 ? 0 : 15;
            Checks.due("print " + copies, spines.print(number, copies), 2 + copies);
            Checks.due("copies in the bin", spines.bin(number, 0), 2 + copies);
            Checks.due("copies printed", spines.bin(number, 3), 2 + copies);
            Checks.due("print into a bin of one", spines.print(4, copies), 1 + copies);
            Checks.due("copies printed, those in the block too", spines.bin(4, 3), 2 + copies);
            Checks.due("the bin beside it", spines.bin(5, 3), 2);
        }
    }

    private static void fullBin() {
        SteppedSpines spines = Steps.gathered(5, 5);
        for (int i = 1; i <= 4; i++) {
            Checks.due("print 20", spines.print(5, 20), 20 * i);
        }
        Checks.refused(spines, "print 20 to 100", Steps.STATE, () -> spines.print(5, 20));
        Checks.due("print 19 to 99", spines.print(5, 19), 99);
        Checks.due("printed", spines.bin(5, 3), 101);
        Checks.refused(spines, "print 1 to 100", Steps.STATE, () -> spines.print(5, 1));
        Checks.due("gather", spines.gather(5), 3);
        Checks.refused(spines, "print 2 to 100", Steps.STATE, () -> spines.print(5, 2));
        Checks.due("print 1 to 99 again", spines.print(5, 1), 99);
        Checks.due("pull into a bin of 99", spines.pull(0), 5);
        Checks.due("pull into a bin of 100", spines.pull(0), 5);
        Checks.due("copies", spines.bin(5, 0), 101);
        Checks.refused(spines, "print into a bin of 101", Steps.STATE, () -> spines.print(5, 1));
    }

    private static void holes() {
        SteppedSpines spines = Steps.gathered(15);
        int before = 31;
        for (int holes = 1; holes <= 31; holes++) {
            Checks.due("punch " + holes, spines.punch(15, holes), before);
            Checks.due("holes", spines.bin(15, 4), holes);
            Checks.due("punch it again", spines.punch(15, holes), holes);
            before = holes;
        }
        Checks.due("holes of the bin beside it", spines.bin(14, 4), 31);
        Checks.due("punch into the bin 0", spines.punch(0, 1), 31);
    }

    private static void settings() {
        eachValue(0, 1, 16, 8);
        eachValue(1, 2, 8, 5);
        eachValue(2, 1, 9, 2);
    }

    private static void eachValue(int setting, int least, int most, int first) {
        SteppedSpines spines = new SteppedSpines();
        Checks.due("setting " + setting, spines.setting(setting), first);
        int before = first;
        for (int value = least; value <= most; value++) {
            Checks.due("set " + setting + " to " + value, spines.set(setting, value), before);
            Checks.due("setting " + setting, spines.setting(setting), value);
            Checks.due("another setting", spines.setting((setting + 1) % 3), new int[] {5, 2, 8}[setting]);
            before = value;
        }
    }

    private static void codes() {
        for (int code = 33; code <= 126; code++) {
            SteppedSpines spines = new SteppedSpines();
            Checks.due("append " + code, spines.append(code), 1);
            Checks.due("append " + code, spines.append(code), 2);
            Checks.due("digest", spines.digest(), Steps.digestOf(spines, false, "" + (char) code + (char) code));
        }
    }

    private static void bufferLengths() {
        SteppedSpines spines = new SteppedSpines();
        for (int length = 0; length <= 60; length++) {
            for (int i = 1; i <= length % 13; i++) {
                Checks.due("append", spines.append('b'), i);
            }
            Checks.due("clearBuffer", spines.clearBuffer(), length % 13);
        }
        for (int i = 1; i <= 60; i++) {
            Checks.due("append", spines.append(33 + i), i);
        }
        Checks.refused(spines, "append of the 61st", Steps.STATE, () -> spines.append('b'));
        Checks.due("clearBuffer", spines.clearBuffer(), 60);
        Checks.due("clearBuffer again", spines.clearBuffer(), 0);
        Checks.due("append behind it", spines.append('b'), 1);
        Checks.due("firstError of it", spines.firstError(), 1);
    }

    private static void counts(SteppedSpines spines, int... due) {
        for (int what = 0; what < due.length; what++) {
            Checks.due("count " + what, spines.count(what), due[what]);
        }
    }

    private static void sheets(SteppedSpines spines, int place, int... due) {
        for (int what = 0; what < due.length; what++) {
            Checks.due("sheet " + place + " " + what, spines.sheet(place, what), due[what]);
        }
    }

    private static void noSheets() {
        SteppedSpines pulled = Steps.gathered(3, 1);
        pulled.pull(0);
        pulled.pull(0);
        SteppedSpines bound = Steps.bookOf(1, 0);
        bound.bind();
        for (SteppedSpines spines : new SteppedSpines[] {new SteppedSpines(), pulled, bound}) {
            counts(spines, 0, 0, 1, -1, 0, 1, 0, 0, 0, 0, 0, 0);
            sheets(spines, 0, -1, -1, -1, -1, -1, -1);
            sheets(spines, Integer.MAX_VALUE, -1, -1, -1, -1, -1, -1);
            Checks.due("nextMove", spines.nextMove(), -1);
            Checks.due("fits", spines.fits(), 0);
            Checks.due("stairShare", spines.stairShare(), 1.0);
            Checks.due("meanThread", spines.meanThread(), 0.0f);
            Checks.due("keep", spines.keep(), 0);
        }
        Checks.due("books", pulled.books(), 2);
        Checks.due("books behind one", bound.books(), 1);
    }

    private static void oneSheet() {
        SteppedSpines spines = Steps.gathered(7);
        counts(spines, 1, 1, 5, -1, 0, 0, 0, 0, 0, 0, 4, 0);
        sheets(spines, 0, 7, 0, 2, 1, 0, 0);
        sheets(spines, 1, -1, -1, -1, -1, -1, -1);
        int[] pulled = {0, 1, 0, 0};
        for (int what = 0; what < 4; what++) {
            Checks.due("ifPulled(0, " + what + ")", spines.ifPulled(0, what), pulled[what]);
        }
        Checks.due("nextMove", spines.nextMove(), -1);
        Checks.due("fits", spines.fits(), 3);
        Checks.due("books", spines.books(), 2);
        Checks.due("stairShare", spines.stairShare(), 0.0);
        Checks.due("meanThread", spines.meanThread(), 4.0f);
        Checks.due("stairShare of a stair of one", Steps.gathered(5).stairShare(), 1.0);
    }

    private static void fallingTwenty() {
        SteppedSpines spines = Steps.gathered(9, 9, 8, 8, 7, 7, 6, 6, 5, 5, 4, 4, 3, 3, 2, 2, 1, 1, 0, 0);
        counts(spines, 20, 20, 3, 0, -1, 0, 18, 18, 180, 95, 270, 0, 0, 0, -1, 6);
        sheets(spines, 0, 9, 0, 4, 1, 0, 0);
        sheets(spines, 19, 0, 0, 0, 1, 5, 18);
        sheets(spines, 20, -1, -1, -1, -1, -1, -1);
        int[] pulled = {19, 3, 17, 90};
        for (int what = 0; what < 4; what++) {
            Checks.due("ifPulled(0, " + what + ")", spines.ifPulled(0, what), pulled[what]);
            Checks.due("ifPulled(19, " + what + ")", spines.ifPulled(19, what), pulled[what]);
        }
        Checks.due("nextMove", spines.nextMove(), 3);
        Checks.due("fits", spines.fits(), -1);
        Checks.due("books", spines.books(), 2);
        Checks.due("stairShare", spines.stairShare(), 0.0);
        Checks.due("meanThread", spines.meanThread(), 13.5f);
        spines.set(0, 10);
        Checks.due("fault of a book of 10", spines.count(2), 4);
        Checks.due("its place", spines.count(3), 1);
        Checks.due("fault without the first", spines.ifPulled(0, 1), 4);
        Checks.due("keep", spines.keep(), 20);
    }

    private static void risingTwenty() {
        SteppedSpines spines = Steps.fullBlock();
        counts(spines, 20, 0, 3, 8, -1, 1, 9, 9, 45, 95, 270, 0, 0, 0, -1, 6);
        sheets(spines, 10, 0, 0, 0, 0, 5, 9);
        sheets(spines, 19, 9, 0, 4, 0, 5, 0);
        Checks.due("fits to a block of 20", spines.fits(), -1);
        Checks.due("stairShare", spines.stairShare(), 1.0);
        spines.set(2, 9);
        Checks.due("the longest threads of all", spines.count(10), 935);
        Checks.due("meanThread", spines.meanThread(), 46.75f);
        spines.set(0, 10);
        counts(spines, 20, 0, 4, 10, -1, 1);
        spines.set(0, 11);
        counts(spines, 20, 0, 4, 10, 10, 1);
        Checks.due("pull", spines.pull(19), 9);
        Checks.due("fits to a block of 19", spines.fits(), 9);
        Checks.due("gather of it", spines.gather(spines.fits()), 20);
    }

    private static void looksChangeNothing() {
        String due = Steps.story(Steps.rich());
        SteppedSpines spines = Steps.rich();
        for (int what = 0; what < 16; what++) {
            spines.count(what);
            for (int number = 0; number < 16; number++) {
                spines.bin(number, what % 5);
            }
            spines.sheet(what % 4, what / 4);
            spines.ifPulled(what % 3, what / 4);
            spines.setting(what % 3);
        }
        spines.sheet(2, 4);
        spines.sheet(2, 5);
        spines.firstError();
        spines.nextMove();
        spines.fits();
        spines.books();
        Checks.due("stairShare", spines.stairShare(), spines.stairShare());
        Checks.due("meanThread", spines.meanThread(), spines.meanThread());
        Checks.due("digest", spines.digest(), spines.digest());
        Checks.due("all that is held", Steps.story(spines), due);
    }
}
