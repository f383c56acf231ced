import java.math.BigInteger;

/** Promises 18 to 28: looks, and what would be. */
final class LookTests {
    private LookTests() {
    }

    static void runAll() {
        Checks.test("promise 18: sheet", LookTests::sheet);
        Checks.test("promise 18: sheet refuses", LookTests::sheetRefuses);
        Checks.test("promise 19: bin", LookTests::bin);
        Checks.test("promise 20: count, the stair", LookTests::stair);
        Checks.test("promise 20: count, faults", LookTests::faults);
        Checks.test("promise 20: count, hidden faults", LookTests::hiddenFaults);
        Checks.test("promise 20: count, order", LookTests::order);
        Checks.test("promise 20: count, sewing", LookTests::sewing);
        Checks.test("promise 20: count refuses", LookTests::countRefuses);
        Checks.test("promise 21: setting", LookTests::setting);
        Checks.test("promise 22: nextMove", LookTests::nextMove);
        Checks.test("promise 23: ifPulled", LookTests::ifPulled);
        Checks.test("promise 24: fits", LookTests::fits);
        Checks.test("promise 25: books", LookTests::books);
        Checks.test("promise 26: stairShare", LookTests::stairShare);
        Checks.test("promise 27: meanThread", LookTests::meanThread);
        Checks.test("promise 28: digest", LookTests::digest);
        Checks.test("promise 28: digest of each share", LookTests::digestOfShares);
        Checks.test("promise 28: digest of many means", LookTests::digestOfMeans);
        Checks.test("promise 28: digest overflows", LookTests::digestOverflows);
        Checks.test("promise 28: digest of snapshots and texts", LookTests::digestOfTexts);
    }

    private static void sheet() {
        SteppedSpines spines = Steps.gathered(9, 0, 7, 6);
        spines.flip(2);
        spines.punch(7, 6);
        spines.punch(6, 8);
        int[][] due = {
            {9, 0, 4, 1, 0, 0},
            {0, 0, 0, 0, 5, 1},
            {7, 1, 2, 1, 2, 1},
            {6, 0, 1, 1, 0, 2},
            {-1, -1, -1, -1, -1, -1},
        };
        for (int place = 0; place < due.length; place++) {
            for (int what = 0; what < 6; what++) {
                Checks.due("sheet(" + place + ", " + what + ")", spines.sheet(place, what), due[place][what]);
            }
        }
        Checks.due("sheet(20, 0)", spines.sheet(20, 0), -1);
        Checks.due("sheet(max, 0)", spines.sheet(Integer.MAX_VALUE, 0), -1);
    }

    private static void sheetRefuses() {
        SteppedSpines spines = Steps.gathered(9);
        Checks.refused(spines, "sheet(-1, 0)", Steps.BOUNDS, () -> spines.sheet(-1, 0));
        Checks.refused(spines, "sheet(-1, 6)", Steps.BOUNDS, () -> spines.sheet(-1, 6));
        Checks.refused(spines, "sheet(0, 6)", Steps.ARGUMENT, () -> spines.sheet(0, 6));
        Checks.refused(spines, "sheet(0, -1)", Steps.ARGUMENT, () -> spines.sheet(0, -1));
        Checks.refused(spines, "sheet(5, 6)", Steps.ARGUMENT, () -> spines.sheet(5, 6));
    }

    private static void bin() {
        SteppedSpines spines = Steps.bookOf(2, 0, 1);
        spines.bind();
        spines.print(1, 4);
        Steps.gather(spines, 1, 5, 1);
        spines.punch(1, 17);
        int[] due = {3, 2, 1, 6, 17};
        for (int what = 0; what < due.length; what++) {
            Checks.due("bin(1, " + what + ")", spines.bin(1, what), due[what]);
        }
        Checks.due("bin(15, 3)", spines.bin(15, 3), 2);
        Checks.refused(spines, "bin(16, 0)", Steps.BOUNDS, () -> spines.bin(16, 0));
        Checks.refused(spines, "bin(-1, 5)", Steps.BOUNDS, () -> spines.bin(-1, 5));
        Checks.refused(spines, "bin(0, 5)", Steps.ARGUMENT, () -> spines.bin(0, 5));
        Checks.refused(spines, "bin(0, -1)", Steps.ARGUMENT, () -> spines.bin(0, -1));
    }

    private static void stair() {
        Checks.due("a stair that comes round", Steps.gathered(0, 1, 2, 3, 4, 5, 6).count(1), 0);
        Checks.due("a stair that begins late", Steps.gathered(1, 2, 3).count(1), 1);
        Checks.due("like ones", Steps.gathered(0, 0, 1).count(1), 1);
        Checks.due("other numbers at the same steps", Steps.gathered(10, 6, 12, 3, 9, 15).count(1), 0);
        SteppedSpines spines = Steps.gathered(0, 1, 2, 3);
        spines.set(1, 2);
        Checks.due("two steps", spines.count(1), 0);
        spines.flip(1);
        Checks.due("upside down", spines.count(1), 2);
    }

    private static void faults() {
        faultOf(Steps.bookOf(3), 1, -1, 0);
        SteppedSpines turned = Steps.bookOf(3, 9, 1, 1, 0);
        turned.flip(3);
        turned.flip(2);
        faultOf(turned, 2, 2, 2);
        faultOf(Steps.bookOf(3, 1, 1, 3, 4), 3, 2, 0);
        faultOf(Steps.bookOf(3, 2, 1, 2, 1), 4, 2, 0);
        faultOf(Steps.bookOf(3, 2, 0), 5, -1, 1);
        faultOf(Steps.bookOf(3, 0, 1), 5, -1, 2);
        faultOf(Steps.bookOf(4, 0, 2, 3, 1), 6, 3, -1);
        faultOf(Steps.bookOf(4, 3, 0, 2, 1), 6, 1, -1);
        faultOf(Steps.bookOf(3, 0, 1, 2), 0, -1, -1);
        SteppedSpines spines = Steps.gathered(0, 1, 2, 3, 4, 5, 6, 7, 8, 9, 10, 11, 12, 13, 14, 15);
        faultOf(spines, 3, 8, -1);
        spines.set(0, 16);
        faultOf(spines, 0, -1, -1);
    }

    private static void faultOf(SteppedSpines spines, int fault, int place, int missing) {
        String block = " of " + Steps.block(spines);
        Checks.due("fault" + block, spines.count(2), fault);
        Checks.due("place of the fault" + block, spines.count(3), place);
        Checks.due("lowest missing" + block, spines.count(4), missing);
    }

    private static void hiddenFaults() {
        Checks.due("an empty block", new SteppedSpines().count(5), 1);
        Checks.due("a good block", Steps.bookOf(2, 0, 1).count(5), 0);
        Checks.due("a foreign sheet at its step", Steps.bookOf(2, 0, 6).count(5), 1);
        Checks.due("a foreign sheet at another step", Steps.bookOf(2, 0, 7).count(5), 0);
        SteppedSpines turned = Steps.bookOf(3, 0, 1, 2);
        turned.flip(2);
        Checks.due("the middle step upside down", turned.count(5), 1);
        turned.flip(1);
        Checks.due("another step upside down", turned.count(5), 0);
        Checks.due("sheets missing at the end", Steps.gathered(0, 1).count(5), 1);
    }

    private static void order() {
        orderOf(0, 0);
        orderOf(0, 0, 5);
        orderOf(0, 0, 5, 5, 6);
        orderOf(1, 1, 6, 5);
        orderOf(1, 2, 5, 5, 4);
        orderOf(4, 10, 9, 8, 7, 6, 5);
        orderOf(3, 9, 4, 3, 1, 1, 3, 2);
        orderOf(3, 8, 2, 5, 3, 7, 4, 1);
        orderOf(9, 45, 0, 1, 2, 3, 4, 5, 6, 7, 8, 9, 0, 1, 2, 3, 4, 5, 6, 7, 8, 9);
    }

    private static void orderOf(int moves, int pairs, int... numbers) {
        SteppedSpines spines = Steps.gathered(numbers);
        String block = " of " + Steps.block(spines);
        Checks.due("fewest moves by sheets" + block, spines.count(6), moves);
        Checks.due("fewest moves by piles" + block, spines.count(7), moves);
        Checks.due("falling pairs" + block, spines.count(8), pairs);
    }

    private static void sewing() {
        SteppedSpines spines = Steps.gathered(0, 1, 2);
        sewn(spines, 10, 32, 0);
        spines.punch(0, 1);
        spines.punch(1, 3);
        spines.punch(2, 4);
        sewn(spines, 1, 3, 1);
        spines.flip(1);
        sewn(spines, 1, 3, 1);
        spines.set(2, 9);
        sewn(spines, 1, 10, 1);
        spines.set(2, 1);
        sewn(spines, 1, 2, 1);
        spines.punch(3, 21);
        spines.gather(3);
        sewn(spines, 2, 7, 1);
        spines.punch(3, 10);
        sewn(spines, 1, 4, 2);
        spines.punch(3, 16);
        spines.gather(3);
        sewn(spines, 2, 3, 2);
        sewn(new SteppedSpines(), 0, 0, 0);
        sewn(Steps.gathered(7), 0, 4, 0);
    }

    private static void countRefuses() {
        SteppedSpines spines = Steps.gathered(1);
        Checks.refused(spines, "count(-1)", Steps.ARGUMENT, () -> spines.count(-1));
        Checks.refused(spines, "count(16)", Steps.ARGUMENT, () -> spines.count(16));
        Checks.refused(spines, "count(max)", Steps.ARGUMENT, () -> spines.count(Integer.MAX_VALUE));
    }

    private static void setting() {
        SteppedSpines spines = new SteppedSpines();
        spines.set(0, 16);
        spines.set(1, 8);
        spines.set(2, 9);
        Checks.due("setting(0)", spines.setting(0), 16);
        Checks.due("setting(1)", spines.setting(1), 8);
        Checks.due("setting(2)", spines.setting(2), 9);
        Checks.refused(spines, "setting(3)", Steps.BOUNDS, () -> spines.setting(3));
        Checks.refused(spines, "setting(-1)", Steps.BOUNDS, () -> spines.setting(-1));
    }

    private static void nextMove() {
        moveOf(-1);
        moveOf(-1, 5);
        moveOf(-1, 5, 5);
        moveOf(-1, 0, 1, 1, 7);
        moveOf(1, 6, 5);
        moveOf(43, 0, 1, 3, 2);
        moveOf(40, 1, 2, 0);
        moveOf(2, 2, 0, 1);
        moveOf(22, 0, 2, 1, 3);
        moveOf(40, 5, 5, 4);
        moveOf(3, 3, 0, 1, 1);
        moveOf(1, 9, 8, 7);
        moveOf(40, 2, 4, 0, 5);
        moveOf(19 * 20 + 16, 0, 0, 1, 1, 2, 2, 3, 3, 4, 4, 5, 5, 6, 6, 7, 7, 8, 9, 9, 8);
    }

    private static void ifPulled() {
        SteppedSpines spines = Steps.bookOf(3, 0, 1, 1, 2);
        pulled(spines, 0, 2, 4, 0, 10);
        pulled(spines, 1, 0, 0, 0, 10);
        pulled(spines, 2, 0, 0, 0, 10);
        pulled(spines, 3, 1, 4, 0, 10);
        pulled(Steps.bookOf(3, 2), 0, 0, 1, 0, 0);
        SteppedSpines turned = Steps.bookOf(3, 2, 0, 1);
        turned.flip(1);
        turned.punch(0, 8);
        turned.punch(1, 7);
        pulled(turned, 0, 2, 2, 0, 0);
        pulled(turned, 1, 2, 5, 1, 3);
        pulled(turned, 2, 2, 2, 1, 1);
        Checks.refused(turned, "ifPulled(3, 0)", Steps.BOUNDS, () -> turned.ifPulled(3, 0));
        Checks.refused(turned, "ifPulled(-1, 0)", Steps.BOUNDS, () -> turned.ifPulled(-1, 0));
        Checks.refused(turned, "ifPulled(3, 4)", Steps.BOUNDS, () -> turned.ifPulled(3, 4));
        Checks.refused(turned, "ifPulled(2, 4)", Steps.ARGUMENT, () -> turned.ifPulled(2, 4));
        Checks.refused(turned, "ifPulled(2, -1)", Steps.ARGUMENT, () -> turned.ifPulled(2, -1));
    }

    private static void fits() {
        Checks.due("fits() at first", new SteppedSpines().fits(), 0);
        Checks.due("fits() behind 0", Steps.gathered(0).fits(), 1);
        Checks.due("fits() behind the last step", Steps.gathered(4).fits(), 0);
        Checks.due("fits() of an empty bin", Steps.gathered(0, 0, 4).fits(), 5);
        Checks.due("fits() behind 12", Steps.gathered(12).fits(), 3);
        Checks.due("fits() to a full block", Steps.fullBlock().fits(), -1);
        SteppedSpines turned = Steps.gathered(0);
        turned.flip(0);
        Checks.due("fits() behind a sheet upside down", turned.fits(), 0);
        SteppedSpines bound = Steps.bookOf(1, 0);
        bound.bind();
        bound.gather(0);
        bound.bind();
        Checks.due("fits() without a 0, ahead of all", bound.fits(), 5);
        SteppedSpines eight = Steps.gathered(3, 3, 11, 11, 2);
        eight.set(1, 8);
        Checks.due("fits() of two empty bins", eight.fits(), -1);
        eight.pull(2);
        Checks.due("fits() of the one beyond the book", eight.fits(), 11);
    }

    private static void books() {
        SteppedSpines spines = Steps.bookOf(3, 0, 0, 1);
        Checks.due("books() of bins and block", spines.books(), 2);
        spines.print(0, 5);
        spines.print(1, 2);
        Checks.due("books() by the least", spines.books(), 2);
        spines.print(2, 4);
        Checks.due("books() by another", spines.books(), 4);
        spines.set(0, 4);
        Checks.due("books() of more sheets", spines.books(), 2);
        spines.set(0, 1);
        Checks.due("books() of one sheet", spines.books(), 7);
        SteppedSpines bound = Steps.bookOf(16, 0, 1, 2, 3, 4, 5, 6, 7, 8, 9, 10, 11, 12, 13, 14, 15);
        Checks.due("books() ahead of bind()", bound.books(), 2);
        bound.bind();
        Checks.due("books() behind bind()", bound.books(), 1);
        bound.gather(15);
        bound.set(0, 1);
        bound.gather(0);
        bound.move(1, 0);
        bound.pull(1);
        bound.bind();
        Checks.due("books() without a copy", bound.books(), 0);
    }

    private static void stairShare() {
        Checks.due("stairShare() without sheets", new SteppedSpines().stairShare(), 1.0);
        Checks.due("stairShare() of a stair", Steps.gathered(0, 1).stairShare(), 1.0);
        Checks.due("stairShare() of no stair", Steps.gathered(1, 1).stairShare(), 0.0);
        Checks.due("stairShare() of 2 in 3", Steps.gathered(0, 1, 3).stairShare(), 2.0 / 3.0);
        Checks.due("stairShare() of 1 in 3", Steps.gathered(0, 2, 4).stairShare(), 1.0 / 3.0);
    }

    private static void meanThread() {
        Checks.due("meanThread() without sheets", new SteppedSpines().meanThread(), 0.0f);
        Checks.due("meanThread() of one", Steps.gathered(0).meanThread(), 4.0f);
        Checks.due("meanThread() of three", Steps.gathered(0, 1, 2).meanThread(), 32.0f / 3.0f);
        SteppedSpines spines = Steps.gathered(0);
        spines.punch(0, 4);
        Checks.due("meanThread() without thread", spines.meanThread(), 0.0f);
    }

    private static void digest() {
        sameDigest(SteppedSpines::new, false, "");
        Checks.due("digest() of a new object", new SteppedSpines().digest(), -6248597308725246711L);
        sameDigest(() -> manySheets(0, ""), true, "");
        for (int sheets = 0; sheets <= 20; sheets++) {
            int gathered = sheets;
            sameDigest(() -> manySheets(gathered, "g1;"), true, "g1;");
        }
        sameDigest(Steps::rich, true, "g1;m");
    }

    private static SteppedSpines manySheets(int sheets, String buffer) {
        int[] numbers = {9, 0, 1, 2, 2, 4, 15, 3, 3, 5, 6, 7, 8, 12, 1, 0, 6, 9, 10, 13};
        SteppedSpines spines = new SteppedSpines();
        spines.keep();
        Steps.type(spines, buffer);
        for (int i = 0; i < sheets; i++) {
            spines.gather(numbers[i]);
            spines.punch(numbers[i], 1 + 7 * i % 31);
            if (i % 4 == 1) {
                spines.flip(i);
            }
        }
        return spines;
    }

    /** Each share of 0 to 20 in 1 to 20 sheets. */
    private static void digestOfShares() {
        for (int sheets = 1; sheets <= 20; sheets++) {
            for (int whole = 0; whole <= sheets; whole++) {
                int length = sheets;
                int stair = whole;
                SteppedSpines spines = stairOf(length, stair);
                Checks.due("stairShare()", spines.stairShare(), (double) stair / length);
                sameDigest(() -> stairOf(length, stair), false, "");
            }
        }
    }

    private static SteppedSpines stairOf(int sheets, int whole) {
        SteppedSpines spines = new SteppedSpines();
        spines.print(0, 20);
        spines.print(1, 20);
        spines.set(1, 2);
        for (int place = 0; place < sheets; place++) {
            spines.gather(place < whole ? place % 2 : whole % 2 == 0 ? 1 : 0);
        }
        return spines;
    }

    /** Mean lengths with many bits: each length of a stitch, each number of sheets, some holes. */
    private static void digestOfMeans() {
        for (int sheets = 1; sheets <= 20; sheets++) {
            for (int length = 1; length <= 9; length++) {
                int gathered = sheets;
                int stitch = length;
                sameDigest(() -> sewnRow(gathered, stitch), false, "b");
            }
        }
    }

    private static SteppedSpines sewnRow(int sheets, int stitch) {
        SteppedSpines spines = new SteppedSpines();
        spines.set(2, stitch);
        for (int place = 0; place < sheets; place++) {
            spines.gather(place * 7 % 16);
            spines.punch(place * 3 % 16, 1 + (place * 11 + stitch * 5) % 31);
        }
        spines.append('b');
        return spines;
    }

    /** The same sum without an end, of which the low 64 bits are told. */
    private static void digestOverflows() {
        SteppedSpines spines = new SteppedSpines();
        BigInteger hash = BigInteger.valueOf(3853);
        int[] counts = {0, 0, 1, -1, 0, 1, 0, 0, 0, 0, 0, 0, 0, 0, -1, 0, 8, 5, 2};
        for (int value : counts) {
            hash = hash.multiply(BigInteger.valueOf(31)).add(BigInteger.valueOf(value));
        }
        for (int number = 0; number < 16; number++) {
            for (int value : new int[] {2, 0, 0, 2, 31}) {
                hash = hash.multiply(BigInteger.valueOf(31)).add(BigInteger.valueOf(value));
            }
        }
        long one = 0x3ff0000000000000L;
        for (long value : new long[] {-1, 0, 2, one, 0, 0, 0}) {
            hash = hash.multiply(BigInteger.valueOf(31)).add(BigInteger.valueOf(value));
        }
        Checks.due("it overflows", hash.bitLength() > 64 ? 1 : 0, 1);
        Checks.due("digest()", spines.digest(), hash.longValue());
    }

    /** The snapshot counts by being there alone, the buffer by each character and its place. */
    private static void digestOfTexts() {
        long none = new SteppedSpines().digest();
        SteppedSpines kept = new SteppedSpines();
        kept.keep();
        Checks.due("digest() with a snapshot", kept.digest(), none + 31);
        kept.keep();
        Checks.due("digest() with another one", kept.digest(), none + 31);
        SteppedSpines typed = new SteppedSpines();
        for (int i = 1; i <= 60; i++) {
            typed.append(126);
        }
        long hash = none + 60;
        for (int i = 1; i <= 60; i++) {
            hash = 31 * hash + 126;
        }
        Checks.due("digest() with 60 characters", typed.digest(), hash);
        typed.clearBuffer();
        Checks.due("digest() with a cleared buffer", typed.digest(), none);
    }

    private static void sewn(SteppedSpines spines, int stitches, int length, int loose) {
        String block = " of " + Steps.block(spines);
        Checks.due("stitches" + block, spines.count(9), stitches);
        Checks.due("length of the threads" + block, spines.count(10), length);
        Checks.due("loose places" + block, spines.count(11), loose);
    }

    private static void moveOf(int due, int... numbers) {
        SteppedSpines spines = Steps.gathered(numbers);
        Checks.due("nextMove() of " + Steps.block(spines), spines.nextMove(), due);
        if (due != -1) {
            int moves = spines.count(6);
            spines.move(due / 20, due % 20);
            Checks.due("fewest moves behind it", spines.count(6), moves - 1);
        }
    }

    private static void pulled(SteppedSpines spines, int place, int... due) {
        long before = spines.digest();
        for (int what = 0; what < due.length; what++) {
            Checks.due("ifPulled(" + place + ", " + what + ") of " + Steps.block(spines),
                    spines.ifPulled(place, what), due[what]);
        }
        Checks.due("the digest behind ifPulled()", spines.digest(), before);
    }

    /** The looks that the digest is reckoned from are those of a twin: no object is used for too many calls. */
    private static void sameDigest(Steps.Maker maker, boolean kept, String buffer) {
        SteppedSpines spines = maker.make();
        long digest = spines.digest();
        Checks.due("digest() again", spines.digest(), digest);
        Checks.due("digest() of " + Steps.block(spines), digest, Steps.digestOf(maker.make(), kept, buffer));
    }
}
