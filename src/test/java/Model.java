import java.util.ArrayDeque;
import java.util.ArrayList;
import java.util.Collections;
import java.util.List;
import java.util.regex.Pattern;

/**
 * The document told once more, in the most roundabout way: lists that are copied for each change,
 * texts by patterns, moves by trying. An exception is answered as BOUNDS, ARGUMENT or STATE.
 */
final class Model {
    static final long BOUNDS = Long.MIN_VALUE;
    static final long ARGUMENT = Long.MIN_VALUE + 1;
    static final long STATE = Long.MIN_VALUE + 2;

    private static final Pattern WORK = Pattern.compile(
            "(" + partPattern() + ")(;(" + partPattern() + "))*");

    private static final class World {
        List<int[]> block = new ArrayList<>();
        int[] copies = filled(2);
        int[] printed = filled(2);
        int[] inBooks = filled(0);
        int[] holes = filled(31);
        int[] settings = {8, 5, 2};
        int books = 0;
        int stop = -1;

        World copy() {
            World other = new World();
            for (int[] sheet : block) {
                other.block.add(sheet.clone());
            }
            other.copies = copies.clone();
            other.printed = printed.clone();
            other.inBooks = inBooks.clone();
            other.holes = holes.clone();
            other.settings = settings.clone();
            other.books = books;
            other.stop = stop;
            return other;
        }
    }

    private World world = new World();
    private World snapshot = null;
    private String buffer = "";
    private final ArrayDeque<World> saved = new ArrayDeque<>();

    private static int[] filled(int value) {
        int[] row = new int[16];
        java.util.Arrays.fill(row, value);
        return row;
    }

    private static String partPattern() {
        String number = "(\\d|1\\d)";
        return "g(\\d|1[0-5])|[pf]" + number + "|m" + number + ">" + number + "|b";
    }

    String buffer() {
        return buffer;
    }

    boolean kept() {
        return snapshot != null;
    }

    private void save() {
        saved.addLast(world.copy());
        if (saved.size() > 6) {
            saved.removeFirst();
        }
    }

    // ---- changes; each one answers first what it would throw

    private boolean isBin(int number) {
        return 0 <= number && number <= 15;
    }

    private boolean isPlace(int place) {
        return 0 <= place && place < world.block.size();
    }

    long gather(int number) {
        return insert(world.block.size(), number);
    }

    long insert(int place, int number) {
        if (place < 0 || place > world.block.size() || !isBin(number)) {
            return BOUNDS;
        }
        if (world.copies[number] == 0 || world.block.size() == 20) {
            return STATE;
        }
        save();
        world.copies[number]--;
        world.block.add(place, new int[] {number, 0});
        return world.block.size();
    }

    long pull(int place) {
        if (!isPlace(place)) {
            return BOUNDS;
        }
        save();
        int number = world.block.remove(place)[0];
        world.copies[number]++;
        return number;
    }

    long flip(int place) {
        if (!isPlace(place)) {
            return BOUNDS;
        }
        save();
        world.block.get(place)[1] ^= 1;
        return marks(world.block).get(place);
    }

    long move(int from, int to) {
        if (!isPlace(from) || !isPlace(to)) {
            return BOUNDS;
        }
        save();
        world.block.add(to, world.block.remove(from));
        return breaks(world.block).size();
    }

    long bind() {
        if (fault(world.block)[0] != 0) {
            return STATE;
        }
        save();
        for (int[] sheet : world.block) {
            world.inBooks[sheet[0]]++;
        }
        world.block.clear();
        return ++world.books;
    }

    long print(int number, int copies) {
        if (!isBin(number)) {
            return BOUNDS;
        }
        if (copies < 1 || copies > 20) {
            return ARGUMENT;
        }
        if (world.copies[number] + copies > 99) {
            return STATE;
        }
        save();
        world.printed[number] += copies;
        return world.copies[number] += copies;
    }

    long punch(int number, int holes) {
        if (!isBin(number)) {
            return BOUNDS;
        }
        if (holes < 1 || holes > 31) {
            return ARGUMENT;
        }
        save();
        int before = world.holes[number];
        world.holes[number] = holes;
        return before;
    }

    long set(int which, int value) {
        if (which < 0 || which > 2) {
            return BOUNDS;
        }
        int least = which == 1 ? 2 : 1;
        int most = which == 0 ? 16 : which == 1 ? 8 : 9;
        if (value < least || value > most) {
            return ARGUMENT;
        }
        save();
        int before = world.settings[which];
        world.settings[which] = value;
        return before;
    }

    long append(int code) {
        if (code < 33 || code > 126) {
            return ARGUMENT;
        }
        if (buffer.length() == 60) {
            return STATE;
        }
        buffer += (char) code;
        return buffer.length();
    }

    long clearBuffer() {
        long length = buffer.length();
        buffer = "";
        return length;
    }

    /** A text can go on to be work if one of these ends makes it so: each of them ends another kind of part. */
    long firstError() {
        for (int end = 1; end <= buffer.length(); end++) {
            String ahead = buffer.substring(0, end);
            boolean goesOn = false;
            for (String rest : new String[] {"", "b", "0", "0>0", ">0"}) {
                goesOn |= WORK.matcher(ahead + rest).matches();
            }
            if (!goesOn) {
                return end - 1;
            }
        }
        return buffer.length();
    }

    long work() {
        if (!WORK.matcher(buffer).matches()) {
            return ARGUMENT;
        }
        save();
        ArrayDeque<World> savedThen = new ArrayDeque<>(saved);
        int done = 0;
        int stop = -1;
        for (String part : buffer.split(";")) {
            if (doPart(part) <= STATE) {
                stop = done;
                break;
            }
            done++;
        }
        saved.clear();
        saved.addAll(savedThen);
        world.stop = stop;
        buffer = "";
        return done;
    }

    private long doPart(String part) {
        String[] numbers = part.substring(1).split(">");
        switch (part.charAt(0)) {
            case 'g': return gather(Integer.parseInt(numbers[0]));
            case 'p': return pull(Integer.parseInt(numbers[0]));
            case 'f': return flip(Integer.parseInt(numbers[0]));
            case 'm': return move(Integer.parseInt(numbers[0]), Integer.parseInt(numbers[1]));
            default: return bind();
        }
    }

    long keep() {
        snapshot = world.copy();
        return world.block.size();
    }

    long goBack() {
        if (snapshot == null) {
            return STATE;
        }
        save();
        world = snapshot.copy();
        return world.block.size();
    }

    long undo() {
        if (saved.isEmpty()) {
            return STATE;
        }
        world = saved.removeLast();
        return saved.size();
    }

    // ---- looks

    private List<Integer> marks(List<int[]> block) {
        List<Integer> marks = new ArrayList<>();
        for (int[] sheet : block) {
            int step = sheet[0] % world.settings[1];
            marks.add(sheet[1] == 1 ? world.settings[1] - 1 - step : step);
        }
        return marks;
    }

    private List<Integer> breaks(List<int[]> block) {
        List<Integer> marks = marks(block);
        List<Integer> breaks = new ArrayList<>();
        int lastStep = world.settings[1] - 1;
        for (int i = 0; i < marks.size(); i++) {
            int ahead = i == 0 ? lastStep : marks.get(i - 1);
            int due = ahead == lastStep ? 0 : ahead + 1;
            if (marks.get(i) != due) {
                breaks.add(i);
            }
        }
        return breaks;
    }

    private int missing(List<int[]> block) {
        for (int number = 0; number < world.settings[0]; number++) {
            int looked = number;
            if (block.stream().noneMatch(sheet -> sheet[0] == looked)) {
                return number;
            }
        }
        return -1;
    }

    /** The fault and its place. */
    private int[] fault(List<int[]> block) {
        if (block.isEmpty()) {
            return new int[] {1, -1};
        }
        List<Integer> numbers = new ArrayList<>();
        int[] first = {0, 0, -1, -1, -1, -1, -1};
        for (int i = 0; i < block.size(); i++) {
            int number = block.get(i)[0];
            boolean[] so = {false, false, block.get(i)[1] == 1, number >= world.settings[0],
                numbers.contains(number), false, i > 0 && number < numbers.get(i - 1)};
            for (int kind = 2; kind <= 6; kind++) {
                first[kind] = first[kind] == -1 && so[kind] ? i : first[kind];
            }
            numbers.add(number);
        }
        for (int kind = 2; kind <= 6; kind++) {
            if (kind == 5 && missing(block) != -1) {
                return new int[] {5, -1};
            }
            if (first[kind] != -1) {
                return new int[] {kind, first[kind]};
            }
        }
        return new int[] {0, -1};
    }

    /** By the sorted order: the longest row that two rows have in common, the block and its sorted copy. */
    private int fewestMoves(List<int[]> block) {
        List<Integer> numbers = new ArrayList<>();
        for (int[] sheet : block) {
            numbers.add(sheet[0]);
        }
        List<Integer> sorted = new ArrayList<>(numbers);
        Collections.sort(sorted);
        int[][] common = new int[numbers.size() + 1][numbers.size() + 1];
        for (int i = 1; i <= numbers.size(); i++) {
            for (int j = 1; j <= numbers.size(); j++) {
                common[i][j] = numbers.get(i - 1).equals(sorted.get(j - 1)) ? common[i - 1][j - 1] + 1
                        : Math.max(common[i - 1][j], common[i][j - 1]);
            }
        }
        return numbers.size() - common[numbers.size()][numbers.size()];
    }

    private int stitchesBetween(int[] one, int[] other) {
        int stitches = 0;
        for (int hole = 0; hole < 5; hole++) {
            boolean inOne = (world.holes[one[0]] & 1 << hole) != 0;
            boolean inOther = (world.holes[other[0]] & 1 << hole) != 0;
            stitches += inOne && inOther ? 1 : 0;
        }
        return stitches;
    }

    private int stitches(List<int[]> block) {
        int stitches = 0;
        for (int i = 1; i < block.size(); i++) {
            stitches += stitchesBetween(block.get(i - 1), block.get(i));
        }
        return stitches;
    }

    private int threads() {
        int length = stitches(world.block) * world.settings[2];
        for (int[] sheet : world.block) {
            int mask = world.holes[sheet[0]];
            length += 31 - Integer.numberOfLeadingZeros(mask) - Integer.numberOfTrailingZeros(mask);
        }
        return length;
    }

    private int loose() {
        int loose = 0;
        for (int i = 1; i < world.block.size(); i++) {
            loose += stitchesBetween(world.block.get(i - 1), world.block.get(i)) == 0 ? 1 : 0;
        }
        return loose;
    }

    private int greaterAhead(int place) {
        int greater = 0;
        for (int[] sheet : world.block.subList(0, place)) {
            greater += sheet[0] > world.block.get(place)[0] ? 1 : 0;
        }
        return greater;
    }

    long sheet(int place, int what) {
        if (place < 0) {
            return BOUNDS;
        }
        if (what < 0 || what > 5) {
            return ARGUMENT;
        }
        if (!isPlace(place)) {
            return -1;
        }
        switch (what) {
            case 0: return world.block.get(place)[0];
            case 1: return world.block.get(place)[1];
            case 2: return marks(world.block).get(place);
            case 3: return breaks(world.block).contains(place) ? 1 : 0;
            case 4: return place == 0 ? 0 : stitchesBetween(world.block.get(place - 1), world.block.get(place));
            default: return greaterAhead(place);
        }
    }

    private int inBlock(int number) {
        return (int) world.block.stream().filter(sheet -> sheet[0] == number).count();
    }

    long bin(int number, int what) {
        if (!isBin(number)) {
            return BOUNDS;
        }
        if (what < 0 || what > 4) {
            return ARGUMENT;
        }
        return new int[] {world.copies[number], inBlock(number), world.inBooks[number],
            world.printed[number], world.holes[number]}[what];
    }

    long count(int what) {
        switch (what) {
            case 0: return world.block.size();
            case 1: return breaks(world.block).size();
            case 2: return fault(world.block)[0];
            case 3: return fault(world.block)[1];
            case 4: return missing(world.block);
            case 5: return fault(world.block)[0] > 0 && breaks(world.block).isEmpty() ? 1 : 0;
            case 6:
            case 7: return fewestMoves(world.block);
            case 8: return java.util.stream.IntStream.range(0, world.block.size()).map(this::greaterAhead).sum();
            case 9: return stitches(world.block);
            case 10: return threads();
            case 11: return loose();
            case 12: return world.books;
            case 13: return java.util.Arrays.stream(world.inBooks).sum();
            case 14: return world.stop;
            case 15: return saved.size();
            default: return ARGUMENT;
        }
    }

    long setting(int which) {
        return which < 0 || which > 2 ? BOUNDS : world.settings[which];
    }

    long nextMove() {
        int moves = fewestMoves(world.block);
        for (int from = 0; from < world.block.size() && moves > 0; from++) {
            for (int to = 0; to < world.block.size(); to++) {
                List<int[]> moved = new ArrayList<>(world.block);
                moved.add(to, moved.remove(from));
                if (fewestMoves(moved) == moves - 1) {
                    return 20 * from + to;
                }
            }
        }
        return -1;
    }

    long ifPulled(int place, int what) {
        if (!isPlace(place)) {
            return BOUNDS;
        }
        List<int[]> rest = new ArrayList<>(world.block);
        rest.remove(place);
        switch (what) {
            case 0: return breaks(rest).size();
            case 1: return fault(rest)[0];
            case 2: return fewestMoves(rest);
            case 3: return stitches(rest);
            default: return ARGUMENT;
        }
    }

    long fits() {
        for (int number = 0; number < 16; number++) {
            List<int[]> more = new ArrayList<>(world.block);
            more.add(new int[] {number, 0});
            if (more.size() <= 20 && world.copies[number] > 0 && !breaks(more).contains(more.size() - 1)) {
                return number;
            }
        }
        return -1;
    }

    long books() {
        int least = Integer.MAX_VALUE;
        for (int number = 0; number < world.settings[0]; number++) {
            least = Math.min(least, world.copies[number] + inBlock(number));
        }
        return least;
    }

    double stairShare() {
        int size = world.block.size();
        return size == 0 ? 1.0 : (double) (size - breaks(world.block).size()) / size;
    }

    float meanThread() {
        return world.block.isEmpty() ? 0.0f : (float) threads() / world.block.size();
    }

    long digest() {
        List<Long> values = new ArrayList<>();
        for (int what = 0; what < 16; what++) {
            values.add(count(what));
        }
        for (int which = 0; which < 3; which++) {
            values.add(setting(which));
        }
        for (int place = 0; place < world.block.size(); place++) {
            for (int what = 0; what < 6; what++) {
                values.add(sheet(place, what));
            }
            for (int what = 0; what < 4; what++) {
                values.add(ifPulled(place, what));
            }
        }
        for (int number = 0; number < 16; number++) {
            for (int what = 0; what < 5; what++) {
                values.add(bin(number, what));
            }
        }
        Collections.addAll(values, nextMove(), fits(), books());
        Collections.addAll(values, Double.doubleToLongBits(stairShare()), (long) Float.floatToIntBits(meanThread()));
        Collections.addAll(values, kept() ? 1L : 0L, (long) buffer.length());
        for (char code : buffer.toCharArray()) {
            values.add((long) code);
        }
        return values.stream().reduce(3853L, (hash, value) -> 31 * hash + value);
    }
}
