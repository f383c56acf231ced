import java.util.ArrayDeque;
import java.util.ArrayList;
import java.util.Collections;
import java.util.HashMap;
import java.util.List;
import java.util.Map;

/** The document's terms, tried through: each mark, each pair of sheets, each group of faults, each short block. */
final class TermTests {
    private TermTests() {
    }

    static void runAll() {
        Checks.test("terms: each mark, either way up (promises 5 and 18)", TermTests::marks);
        Checks.test("terms: each pair of neighbours in the stair (promises 18, 20, 24 and 26)", TermTests::neighbours);
        Checks.test("terms: fits() by empty bins (promise 24)", TermTests::fitsByBins);
        Checks.test("terms: each group of faults (promises 7, 20 and 23)", TermTests::groupsOfFaults);
        Checks.test("terms: the place of a sheet upside down", TermTests::placesUpsideDown);
        Checks.test("terms: the place of a sheet that the book does not have", TermTests::placesOfForeign);
        Checks.test("terms: the place of a double sheet", TermTests::placesOfDouble);
        Checks.test("terms: the lowest number that is missing", TermTests::lowestMissing);
        Checks.test("terms: the place of a sheet out of order", TermTests::placesOutOfOrder);
        Checks.test("terms: hidden faults of each kind", TermTests::hiddenFaults);
        Checks.test("terms: the fewest moves of each short block (promises 20, 22 and 23)", TermTests::fewestMoves);
        Checks.test("terms: moves behind those of a larger block (promises 20, 22 and 23)", TermTests::movesOfSmaller);
        Checks.test("terms: each pair of masks, sewn (promises 18, 20 and 23)", TermTests::pairsOfMasks);
        Checks.test("terms: loose places (promise 20)", TermTests::loosePlaces);
        Checks.test("terms: books by each least number (promise 25)", TermTests::booksByLeast);
    }

    /** The step of a mark, by walking up and down the stair. */
    private static int step(int number, int turned, int steps) {
        int step = 0;
        for (int i = 0; i < number; i++) {
            step = behind(step, steps);
        }
        int upsideDown = steps - 1;
        for (int i = 0; i < step; i++) {
            upsideDown--;
        }
        return turned == 1 ? upsideDown : step;
    }

    private static int behind(int step, int steps) {
        return step == steps - 1 ? 0 : step + 1;
    }

    private static void marks() {
        for (int steps = 2; steps <= 8; steps++) {
            for (int number = 0; number < 16; number++) {
                SteppedSpines spines = Steps.gathered(number);
                spines.set(1, steps);
                String name = " of " + number + " with steps " + steps;
                Checks.due("mark" + name, spines.sheet(0, 2), step(number, 0, steps));
                Checks.due("break ahead" + name, spines.sheet(0, 3), step(number, 0, steps) == 0 ? 0 : 1);
                Checks.due("flip" + name, spines.flip(0), step(number, 1, steps));
                Checks.due("mark upside down" + name, spines.sheet(0, 2), step(number, 1, steps));
                Checks.due("break ahead upside down" + name, spines.sheet(0, 3), step(number, 1, steps) == 0 ? 0 : 1);
                Checks.due("flip back" + name, spines.flip(0), step(number, 0, steps));
            }
        }
    }

    private static void neighbours() {
        for (int steps = 2; steps <= 8; steps++) {
            for (int first = 0; first < 32; first++) {
                for (int second = 0; second < 32; second++) {
                    pair(steps, first, second);
                }
            }
        }
    }

    /** Two sheets; those from 16 on stand for the numbers less 16, upside down. */
    private static void pair(int steps, int first, int second) {
        SteppedSpines spines = Steps.gathered(first % 16, second % 16);
        spines.set(1, steps);
        if (first >= 16) {
            spines.flip(0);
        }
        if (second >= 16) {
            spines.flip(1);
        }
        int ahead = step(first % 16, first / 16, steps);
        int then = step(second % 16, second / 16, steps);
        int atFirst = ahead == 0 ? 0 : 1;
        int atSecond = then == behind(ahead, steps) ? 0 : 1;
        String name = " of " + Steps.block(spines) + " with steps " + steps;
        Checks.due("break ahead of the first" + name, spines.sheet(0, 3), atFirst);
        Checks.due("break ahead of the second" + name, spines.sheet(1, 3), atSecond);
        Checks.due("breaks" + name, spines.count(1), atFirst + atSecond);
        Checks.due("stairShare" + name, spines.stairShare(), (2 - atFirst - atSecond) / 2.0);
        Checks.due("breaks without the first" + name, spines.ifPulled(0, 0), then == 0 ? 0 : 1);
        Checks.due("breaks without the second" + name, spines.ifPulled(1, 0), atFirst);
        Checks.due("fits" + name, spines.fits(), lowestAt(behind(then, steps), steps, first % 16, second % 16));
    }

    /** The lowest number with a mark at the step, but one that is gathered twice. */
    private static int lowestAt(int step, int steps, int gathered, int gatheredToo) {
        int number = 0;
        while (step(number, 0, steps) != step || number == gathered && number == gatheredToo) {
            number++;
        }
        return number;
    }

    private static void fitsByBins() {
        SteppedSpines spines = Steps.bookOf(1, 4, 4, 9, 9, 14, 14, 3);
        Checks.due("fits with all bins of the step 4 empty", spines.fits(), -1);
        spines.pull(4);
        Checks.due("fits with the last of them", spines.fits(), 14);
        spines.print(9, 1);
        Checks.due("fits with a lower one, beyond the book", spines.fits(), 9);
        spines.pull(0);
        Checks.due("fits with the lowest", spines.fits(), 4);
        spines.set(1, 8);
        Checks.due("fits of 8 steps", spines.fits(), 4);
        spines.flip(4);
        Checks.due("fits behind a sheet upside down at 8 - 1 - 3", spines.fits(), 5);
        SteppedSpines none = Steps.gathered(0, 0, 5, 5, 10, 10, 15, 15);
        for (int i = 0; i < 4; i++) {
            Checks.due("fits behind step 0", none.fits(), 1);
            none.move(7, 0);
        }
        none.flip(7);
        Checks.due("fits behind step 4 without a bin of step 0", none.fits(), -1);
    }

    /** Reasons 2, 3, 4, 5 and 6 as bits; the fault is the least one of them. */
    private static void groupsOfFaults() {
        for (int group = 0; group < 32; group++) {
            List<Integer> numbers = new ArrayList<>(List.of(0, 1, 2, 3));
            if ((group & 8) != 0) {
                numbers.remove(2);
            }
            if ((group & 4) != 0) {
                numbers.add(2, 1);
            }
            if ((group & 2) != 0) {
                numbers.add(4);
            }
            if ((group & 16) != 0) {
                numbers.add(numbers.remove(0));
            }
            faultsTold(group, numbers);
        }
    }

    private static void faultsTold(int group, List<Integer> numbers) {
        SteppedSpines spines = Steps.bookOf(4, numbers.stream().mapToInt(Integer::intValue).toArray());
        if ((group & 1) != 0) {
            spines.flip(1);
        }
        int fault = group == 0 ? 0 : 2 + Integer.numberOfTrailingZeros(group);
        int doublePlace = numbers.lastIndexOf(1);
        int[] places = {-1, -1, 1, numbers.indexOf(4), doublePlace, -1, numbers.size() - 1};
        String name = " of " + Steps.block(spines);
        Checks.due("fault" + name, spines.count(2), fault);
        Checks.due("its place" + name, spines.count(3), places[fault]);
        Checks.due("lowest missing" + name, spines.count(4), (group & 8) != 0 ? 2 : -1);
        Checks.due("bind" + name, Checks.thrownBy(spines::bind), fault == 0 ? "nothing" : Steps.STATE.getName());
        Checks.due("books" + name, spines.count(12), fault == 0 ? 1 : 0);
        Checks.due("sheets" + name, spines.count(0), fault == 0 ? 0 : numbers.size());
    }

    private static void fault(SteppedSpines spines, int fault, int place) {
        Checks.due("fault of " + Steps.block(spines), spines.count(2), fault);
        Checks.due("its place in " + Steps.block(spines), spines.count(3), place);
    }

    private static void placesUpsideDown() {
        for (int place = 0; place < 20; place++) {
            SteppedSpines spines = Steps.fullBlock();
            spines.flip(19);
            if (place < 19) {
                spines.flip(place);
            }
            fault(spines, 2, place);
            spines.flip(place);
            fault(spines, place < 19 ? 2 : 3, place < 19 ? 19 : 8);
        }
        for (int place = 0; place < 3; place++) {
            pulledUpsideDown(place);
        }
    }

    /** A sheet that is no longer in the block is no fault of it, wherever it lay. */
    private static void pulledUpsideDown(int place) {
        SteppedSpines spines = Steps.bookOf(2, 0, 1);
        spines.insert(place, place == 2 ? 1 : place);
        spines.flip(place);
        fault(spines, 2, place);
        Checks.due("fault without the place " + place, spines.ifPulled(place, 1), 0);
        spines.pull(place);
        fault(spines, 0, -1);
        Checks.due("bind", spines.bind(), 1);
        fault(spines, 1, -1);
        Steps.gather(spines, 0, 1);
        fault(spines, 0, -1);
        Checks.due("bind again", spines.bind(), 2);
    }

    private static void placesOfForeign() {
        for (int book = 1; book <= 15; book++) {
            fault(Steps.bookOf(book, book), 3, 0);
            fault(Steps.bookOf(book, 15), 3, 0);
            fault(Steps.bookOf(book, 0, 0, book, 15), 3, 2);
            fault(Steps.bookOf(book, 0, book - 1, 15, book), 3, 2);
            fault(Steps.bookOf(book, book - 1), book == 1 ? 0 : 5, -1);
        }
        fault(Steps.bookOf(16, 15), 5, -1);
        fault(Steps.bookOf(15, 0, 1, 2, 3, 4, 5, 6, 7, 8, 9, 10, 11, 12, 13, 14, 15), 3, 15);
    }

    private static void placesOfDouble() {
        fault(Steps.bookOf(3, 2, 2), 4, 1);
        fault(Steps.bookOf(3, 0, 0, 1, 2), 4, 1);
        fault(Steps.bookOf(3, 2, 1, 0, 2), 4, 3);
        fault(Steps.bookOf(3, 2, 0, 1, 1, 2, 0), 4, 3);
        fault(Steps.bookOf(3, 1, 2, 0, 2, 1), 4, 3);
        for (int sheets = 1; sheets <= 15; sheets++) {
            SteppedSpines spines = new SteppedSpines();
            spines.set(0, 16);
            for (int number = 0; number < sheets; number++) {
                spines.gather(number);
            }
            fault(spines, 5, -1);
            spines.gather(0);
            fault(spines, 4, sheets);
        }
    }

    private static void lowestMissing() {
        for (int missing = 0; missing < 16; missing++) {
            SteppedSpines spines = new SteppedSpines();
            spines.set(0, 16);
            for (int number = 15; number >= 0; number--) {
                if (number != missing && number != 15 - missing / 2) {
                    spines.gather(number);
                }
            }
            Checks.due("lowest missing", spines.count(4), Math.min(missing, 15 - missing / 2));
            fault(spines, 5, -1);
            spines.set(0, 1);
            Checks.due("lowest missing of a book of 1", spines.count(4), missing == 0 ? 0 : -1);
        }
        Checks.due("lowest missing with only a foreign sheet", Steps.bookOf(2, 2).count(4), 0);
        Checks.due("none missing, but foreign and double", Steps.bookOf(2, 1, 0, 2, 1).count(4), -1);
        SteppedSpines turned = Steps.bookOf(2, 1, 0);
        turned.flip(0);
        Checks.due("none missing, but upside down", turned.count(4), -1);
    }

    private static void placesOutOfOrder() {
        for (int place = 1; place < 16; place++) {
            SteppedSpines spines = Steps.bookOf(16, 0, 1, 2, 3, 4, 5, 6, 7, 8, 9, 10, 11, 12, 13, 14, 15);
            fault(spines, 0, -1);
            spines.move(place, place - 1);
            fault(spines, 6, place);
            if (place < 15) {
                spines.move(15, place + 1);
                fault(spines, 6, place);
            }
        }
        fault(Steps.bookOf(2, 1, 0), 6, 1);
        fault(Steps.bookOf(3, 1, 2, 0), 6, 2);
        fault(Steps.bookOf(3, 2, 1, 0), 6, 1);
    }

    private static void hiddenFaults() {
        SteppedSpines turned = Steps.bookOf(5, 0, 1, 2, 3, 4);
        turned.flip(2);
        hidden(turned, 2, 1);
        turned.flip(0);
        hidden(turned, 2, 0);
        hidden(Steps.bookOf(5, 0, 1, 2, 3, 4, 5), 3, 1);
        hidden(Steps.bookOf(5, 0, 1, 2, 3, 4, 6), 3, 0);
        hidden(Steps.bookOf(5, 0, 1, 2, 3, 4, 0), 4, 1);
        hidden(Steps.bookOf(5, 0, 1, 2, 3, 4, 4), 4, 0);
        hidden(Steps.bookOf(5, 0, 1, 2, 3), 5, 1);
        hidden(Steps.bookOf(5, 0, 1, 2, 4), 5, 0);
        hidden(Steps.bookOf(10, 5, 6, 7, 8, 9, 0, 1, 2, 3, 4), 6, 1);
        hidden(Steps.bookOf(10, 5, 6, 7, 8, 9, 0, 1, 2, 4, 3), 6, 0);
        hidden(Steps.bookOf(5), 1, 1);
        hidden(Steps.bookOf(5, 0, 1, 2, 3, 4), 0, 0);
    }

    private static void hidden(SteppedSpines spines, int fault, int due) {
        Checks.due("fault of " + Steps.block(spines), spines.count(2), fault);
        Checks.due("hidden in " + Steps.block(spines), spines.count(5), due);
        boolean refused = !Checks.thrownBy(spines::bind).equals("nothing");
        Checks.due("bind() refuses " + Steps.block(spines), refused ? 1 : 0, fault > 0 ? 1 : 0);
    }

    /** All blocks of up to five sheets with the numbers 6 to 9, against moving them in all ways. */
    private static void fewestMoves() {
        for (int size = 0; size <= 5; size++) {
            int blocks = 1 << 2 * size;
            Map<String, Integer> moves = new HashMap<>();
            for (int which = 0; which < blocks; which++) {
                List<Integer> block = new ArrayList<>();
                for (int i = 0; i < size; i++) {
                    block.add(6 + (which >> 2 * i & 3));
                }
                if (!moves.containsKey(block.toString())) {
                    findMoves(block, moves);
                }
                movesTold(block, moves.get(block.toString()));
            }
        }
    }

    /** From the block in order by ever more moves, which all go back, too. */
    private static void findMoves(List<Integer> block, Map<String, Integer> moves) {
        List<Integer> sorted = new ArrayList<>(block);
        Collections.sort(sorted);
        ArrayDeque<List<Integer>> next = new ArrayDeque<>(List.of(sorted));
        moves.put(sorted.toString(), 0);
        while (!next.isEmpty()) {
            List<Integer> from = next.removeFirst();
            for (int way = 0; way < from.size() * from.size(); way++) {
                List<Integer> moved = new ArrayList<>(from);
                moved.add(way % from.size(), moved.remove(way / from.size()));
                if (moves.putIfAbsent(moved.toString(), moves.get(from.toString()) + 1) == null) {
                    next.add(moved);
                }
            }
        }
    }

    private static void movesTold(List<Integer> block, int moves) {
        SteppedSpines spines = new SteppedSpines();
        int pairs = 0;
        for (int i = 0; i < block.size(); i++) {
            if (spines.bin(block.get(i), 0) == 0) {
                spines.print(block.get(i), 3);
            }
            spines.gather(block.get(i));
            int greater = 0;
            for (int j = 0; j < i; j++) {
                greater += block.get(j) > block.get(i) ? 1 : 0;
            }
            Checks.due("greater ones ahead in " + block, spines.sheet(i, 5), greater);
            pairs += greater;
        }
        Checks.due("fewest moves by sheets of " + block, spines.count(6), moves);
        Checks.due("fewest moves by piles of " + block, spines.count(7), moves);
        Checks.due("pairs of " + block, spines.count(8), pairs);
        Checks.due("nextMove of " + block, spines.nextMove(), firstGoodMove(spines, moves));
        for (int place = 0; place < block.size(); place++) {
            int told = spines.ifPulled(place, 2);
            spines.pull(place);
            Checks.due("moves without " + place + " of " + block, told, spines.count(6));
            spines.undo();
        }
    }

    private static int firstGoodMove(SteppedSpines spines, int moves) {
        int size = spines.count(0);
        for (int from = 0; from < size && moves > 0; from++) {
            for (int to = 0; to < size; to++) {
                spines.move(from, to);
                int left = spines.count(6);
                spines.undo();
                if (left == moves - 1) {
                    return 20 * from + to;
                }
            }
        }
        return -1;
    }

    /** Blocks that become smaller, sheet by sheet: nothing of what was reckoned for the larger ones is left. */
    private static void movesOfSmaller() {
        for (int way = 0; way < 625; way++) {
            SteppedSpines spines = new SteppedSpines();
            for (int i = 0, rest = way; i < 4; i++, rest /= 5) {
                spines.insert(rest % 5 % (i + 1), 5 + rest % 5 % 4);
                if (spines.bin(5 + rest % 5 % 4, 0) == 0) {
                    spines.print(5 + rest % 5 % 4, 2);
                }
            }
            while (spines.count(0) > 0) {
                lookedAtAnew(spines);
                spines.pull(way % spines.count(0));
            }
            lookedAtAnew(spines);
        }
    }

    /** The moves are those of an object that never had another block. */
    private static void lookedAtAnew(SteppedSpines spines) {
        SteppedSpines anew = new SteppedSpines();
        for (int place = 0; place < spines.count(0); place++) {
            anew.print(spines.sheet(place, 0), 1);
            anew.gather(spines.sheet(place, 0));
        }
        String name = " of " + Steps.block(spines) + " behind a larger block";
        Checks.due("nextMove" + name, spines.nextMove(), anew.nextMove());
        Checks.due("fewest moves by sheets" + name, spines.count(6), anew.count(6));
        Checks.due("fewest moves by piles" + name, spines.count(7), anew.count(7));
        for (int place = 0; place < spines.count(0); place++) {
            Checks.due("moves without " + place + name, spines.ifPulled(place, 2), anew.ifPulled(place, 2));
        }
    }

    private static void pairsOfMasks() {
        for (int first = 1; first <= 31; first++) {
            for (int second = 1; second <= 31; second++) {
                sewnPair(first, second);
            }
        }
    }

    private static void sewnPair(int first, int second) {
        SteppedSpines spines = Steps.gathered(2, 11);
        spines.punch(2, first);
        spines.punch(11, second);
        int length = 1 + (first + second) % 9;
        spines.set(2, length);
        if (first % 2 == 0) {
            spines.flip(second % 2);
        }
        int stitches = 0;
        for (int hole = 1; hole <= 16; hole *= 2) {
            stitches += first / hole % 2 * (second / hole % 2);
        }
        int threads = length * stitches + span(first) + span(second);
        String name = " of " + first + " and " + second;
        Checks.due("stitches of the first" + name, spines.sheet(0, 4), 0);
        Checks.due("stitches of the second" + name, spines.sheet(1, 4), stitches);
        Checks.due("stitches" + name, spines.count(9), stitches);
        Checks.due("threads" + name, spines.count(10), threads);
        Checks.due("loose places" + name, spines.count(11), stitches == 0 ? 1 : 0);
        Checks.due("meanThread" + name, spines.meanThread(), (float) threads / 2);
        Checks.due("stitches without the first" + name, spines.ifPulled(0, 3), 0);
    }

    /** From the lowest hole to the highest one. */
    private static int span(int mask) {
        String holes = Integer.toBinaryString(mask);
        return holes.lastIndexOf('1') - holes.indexOf('1');
    }

    private static void loosePlaces() {
        SteppedSpines spines = Steps.gathered(0, 1, 0, 1, 2, 2);
        spines.punch(0, 1);
        spines.punch(1, 2);
        Checks.due("loose places at the front", spines.count(11), 3);
        Checks.due("stitches", spines.count(9), 1 + 5);
        spines.punch(2, 4);
        Checks.due("loose places, like ones beside each other", spines.count(11), 4);
        spines.move(5, 0);
        Checks.due("loose places all through", spines.count(11), 5);
        Checks.due("stitches all through", spines.count(9), 0);
        Checks.due("threads all through", spines.count(10), 0);
        Checks.due("meanThread of no thread", spines.meanThread(), 0.0f);
        Checks.due("stitches without a sheet between like ones", spines.ifPulled(2, 3), 1);
    }

    private static void booksByLeast() {
        for (int least = 0; least < 16; least++) {
            SteppedSpines spines = new SteppedSpines();
            for (int number = 0; number < 16; number++) {
                spines.print(number, number == least ? 1 : 3);
            }
            spines.set(0, 16);
            Checks.due("books by the number " + least, spines.books(), 3);
            spines.set(0, least + 1);
            Checks.due("books up to the number " + least, spines.books(), 3);
            if (least > 0) {
                spines.set(0, least);
                Checks.due("books below the number " + least, spines.books(), 5);
            }
            spines.gather(least);
            spines.gather(least);
            spines.set(0, 16);
            Checks.due("books with copies in the block", spines.books(), 3);
        }
    }
}
