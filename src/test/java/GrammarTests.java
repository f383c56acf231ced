import java.util.LinkedHashMap;
import java.util.Map;

/** Work as a text: each character behind each beginning, texts that end too early, full buffers, and stops. */
final class GrammarTests {
    private static final String DIGITS = "0123456789";
    private static final String LETTERS = "gpfmb";

    private GrammarTests() {
    }

    static void runAll() {
        Checks.test("text: each character behind each beginning (promise 13)", GrammarTests::characters);
        Checks.test("text: the first error stays (promise 13)", GrammarTests::firstErrorStays);
        Checks.test("text: complete or not (promise 14)", GrammarTests::completeOrNot);
        Checks.test("text: each number of each part (promises 13 and 14)", GrammarTests::numbers);
        Checks.test("text: 60 characters (promises 11, 13 and 14)", GrammarTests::sixtyCharacters);
        Checks.test("text: parts do what the calls do (promise 14)", GrammarTests::partsAsCalls);
        Checks.test("text: the first part throws (promise 14)", GrammarTests::firstPartThrows);
        Checks.test("text: the last part throws (promise 14)", GrammarTests::lastPartThrows);
        Checks.test("text: a part between throws (promise 14)", GrammarTests::partBetweenThrows);
        Checks.test("text: parts at the edges of a full block (promise 14)", GrammarTests::fullBlock);
        Checks.test("text: the latest stop (promises 14 and 20)", GrammarTests::latestStop);
        Checks.test("text: other calls leave the stop (promises 14 and 20)", GrammarTests::otherCallsLeaveTheStop);
    }

    /** What may come behind each beginning; one that may be the end of a text has ";" among it. */
    private static Map<String, String> followers() {
        Map<String, String> followers = new LinkedHashMap<>();
        followers.put("", LETTERS);
        followers.put("b", ";");
        followers.put("b;", LETTERS);
        for (String letter : new String[] {"g", "p", "f", "m", "m7>", "m10>"}) {
            followers.put(letter, DIGITS);
            String end = letter.equals("m") ? ">" : ";";
            for (int number = 0; number <= (letter.equals("g") ? 15 : 19); number++) {
                String digits = number != 1 ? "" : letter.equals("g") ? "012345" : DIGITS;
                followers.put(letter + number, digits + end);
            }
        }
        return followers;
    }

    private static void characters() {
        for (Map.Entry<String, String> entry : followers().entrySet()) {
            for (String ahead : new String[] {"", "b;", "m1>19;g15;"}) {
                String text = ahead + entry.getKey();
                for (int code = 33; code <= 126; code++) {
                    boolean follows = entry.getValue().indexOf(code) >= 0;
                    error(text + (char) code, text.length() + (follows ? 1 : 0));
                }
            }
        }
    }

    private static void error(String text, int due) {
        SteppedSpines spines = new SteppedSpines();
        Steps.type(spines, text);
        Checks.due("firstError of " + text, spines.firstError(), due);
    }

    private static void firstErrorStays() {
        SteppedSpines spines = new SteppedSpines();
        Steps.type(spines, "g1");
        Checks.due("firstError", spines.firstError(), 2);
        spines.append('6');
        for (int length = 3; length < 60; length++) {
            Checks.due("firstError", spines.firstError(), 2);
            spines.append("g1;".charAt(length % 3));
        }
        Checks.due("firstError of 60 characters", spines.firstError(), 2);
        Checks.due("work of them", Checks.thrownBy(spines::work), Steps.ARGUMENT.getName());
        Checks.due("clearBuffer", spines.clearBuffer(), 60);
        Checks.due("firstError without a character", spines.firstError(), 0);
        spines.append(';');
        Checks.due("firstError at the first one", spines.firstError(), 0);
    }

    private static void completeOrNot() {
        for (Map.Entry<String, String> entry : followers().entrySet()) {
            String text = entry.getKey();
            boolean complete = entry.getValue().indexOf(';') >= 0;
            for (String ahead : new String[] {"", "f0;"}) {
                SteppedSpines spines = Steps.gathered(15);
                Steps.type(spines, ahead + text);
                long before = spines.digest();
                String due = complete ? "nothing" : Steps.ARGUMENT.getName();
                Checks.due("work of " + ahead + text, Checks.thrownBy(spines::work), due);
                Checks.due("saved states behind " + ahead + text, spines.count(15), complete ? 2 : 1);
                Checks.due("nothing is changed by " + ahead + text, spines.digest() == before ? 1 : 0, complete ? 0 : 1);
                int left = complete ? 0 : ahead.length() + text.length();
                Checks.due("the buffer behind " + ahead + text, spines.clearBuffer(), left);
            }
        }
    }

    private static void numbers() {
        for (int number = 0; number < 100; number++) {
            int length = number < 10 ? 2 : 3;
            error("g" + number, number <= 15 ? length : 2);
            error("p" + number, number <= 19 ? length : 2);
            error("f" + number, number <= 19 ? length : 2);
            error("m" + number, number <= 19 ? length : 2);
            error("m" + number + ">", number <= 19 ? length + 1 : 2);
            error("m0>" + number, number <= 19 ? length + 2 : 4);
        }
        for (String letter : new String[] {"g", "p", "f", "m", "m1>"}) {
            error(letter + "00", letter.length() + 1);
            error(letter + "01", letter.length() + 1);
            error(letter + "09", letter.length() + 1);
            error(letter + "100", letter.length() + 2);
            error(letter + "-1", letter.length());
            error(letter + "+1", letter.length());
        }
        for (int number = 0; number <= 15; number++) {
            SteppedSpines spines = new SteppedSpines();
            Checks.due("work of g" + number, Steps.work(spines, "g" + number), 1);
            Checks.due("the block", Steps.block(spines), "" + number);
        }
    }

    private static void sixtyCharacters() {
        SteppedSpines spines = Steps.gathered(0, 1, 2, 3, 4, 5, 6, 7, 8, 9, 10);
        String text = "f0;f1;f2;f3;f4;f5;f6;f7;f8;f9;f0;f1;f2;f3;f4;f5;f6;f7;f8;f10";
        Checks.due("characters", Steps.type(spines, text), 60);
        Checks.due("firstError", spines.firstError(), 60);
        Checks.due("work", spines.work(), 20);
        Checks.due("the block", Steps.block(spines), "0 1 2 3 4 5 6 7 8 9- 10-");
        Checks.due("saved states", spines.count(15), 6);
        Checks.due("undo", spines.undo(), 5);
        Checks.due("the block before", Steps.block(spines), "0 1 2 3 4 5 6 7 8 9 10");
        Checks.due("the buffer stays clear", spines.clearBuffer(), 0);
        StringBuilder binds = new StringBuilder();
        for (int i = 0; i < 30; i++) {
            binds.append("b;");
        }
        Checks.due("characters", Steps.type(spines, binds.toString()), 60);
        Checks.due("firstError of a text that goes on", spines.firstError(), 60);
        Checks.due("work of it", Checks.thrownBy(spines::work), Steps.ARGUMENT.getName());
        Checks.due("the buffer is left", spines.clearBuffer(), 60);
        Checks.due("most parts", Steps.work(new SteppedSpines(), binds.substring(0, 59)), 0);
    }

    /** The looks but the saved states and the stop. */
    private static String seen(SteppedSpines spines) {
        StringBuilder text = new StringBuilder(Steps.block(spines)).append(" in bins");
        for (int number = 0; number < 16; number++) {
            text.append(' ').append(spines.bin(number, 0)).append('/').append(spines.bin(number, 2));
        }
        return text.append(", books ").append(spines.count(12)).append(", sheets ").append(spines.count(13)).toString();
    }

    private static void asCalls(String text, int parts, Steps.Calls calls) {
        SteppedSpines worked = Steps.bookOf(2, 5, 5, 1, 4);
        worked.flip(1);
        SteppedSpines called = Steps.bookOf(2, 5, 5, 1, 4);
        called.flip(1);
        calls.on(called);
        Checks.due("work of " + text, Steps.work(worked, text), parts);
        Checks.due("behind " + text, seen(worked), seen(called));
        Checks.due("stop of " + text, worked.count(14), -1);
        Checks.due("saved states of " + text, worked.count(15), 6);
    }

    private static void partsAsCalls() {
        asCalls("g0", 1, spines -> spines.gather(0));
        asCalls("g15", 1, spines -> spines.gather(15));
        asCalls("p0", 1, spines -> spines.pull(0));
        asCalls("p3", 1, spines -> spines.pull(3));
        asCalls("f0", 1, spines -> spines.flip(0));
        asCalls("f1", 1, spines -> spines.flip(1));
        asCalls("m0>3", 1, spines -> spines.move(0, 3));
        asCalls("m3>0", 1, spines -> spines.move(3, 0));
        asCalls("m1>2", 1, spines -> spines.move(1, 2));
        asCalls("m2>2", 1, spines -> spines.move(2, 2));
        asCalls("p3;p1;p0;g0;m1>0;b", 6, spines -> {
            spines.pull(3);
            spines.pull(1);
            spines.pull(0);
            spines.gather(0);
            spines.move(1, 0);
            spines.bind();
        });
        asCalls("p1;g5;g10;m4>1", 4, spines -> {
            spines.pull(1);
            spines.gather(5);
            spines.gather(10);
            spines.move(4, 1);
        });
    }

    /** A block of three sheets, an empty bin 6, and a fault. */
    private static SteppedSpines three() {
        return Steps.gathered(6, 2, 6);
    }

    private static final String[] THROWING = {"g6", "p3", "p19", "f3", "f19", "m3>0", "m0>3", "m19>19", "m19>0", "m0>19", "b"};

    private static void stops(String text, int stop, String block) {
        SteppedSpines spines = three();
        long saved = spines.count(15);
        String before = Steps.story(three());
        Checks.due("work of " + text, Steps.work(spines, text), stop);
        Checks.due("stop of " + text, spines.count(14), stop);
        Checks.due("block behind " + text, Steps.block(spines), block);
        Checks.due("saved states behind " + text, spines.count(15), saved + 1);
        Checks.due("buffer behind " + text, spines.clearBuffer(), 0);
        Checks.due("undo of " + text, spines.undo(), saved);
        Checks.due("all behind undo of " + text, Steps.story(spines), before);
    }

    private static void firstPartThrows() {
        for (String part : THROWING) {
            stops(part, 0, "6 2 6");
            stops(part + ";g1", 0, "6 2 6");
            stops(part + ";" + part + ";p0;p0;p0", 0, "6 2 6");
        }
        SteppedSpines empty = new SteppedSpines();
        Checks.due("work without sheets", Steps.work(empty, "p0;g1"), 0);
        Checks.due("work without sheets", Steps.work(empty, "f0;g1"), 0);
        Checks.due("work without sheets", Steps.work(empty, "m0>0;g1"), 0);
        Checks.due("work without sheets", Steps.work(empty, "b;g1"), 0);
        Checks.due("sheets", empty.count(0), 0);
        Checks.due("saved states", empty.count(15), 4);
    }

    private static void lastPartThrows() {
        for (String part : THROWING) {
            stops("f0;" + part, 1, "6- 2 6");
            stops("f0;m0>2;f1;m0>2;" + part, 4, "6- 6- 2");
        }
        stops("p0;p0;p0;p0", 3, "");
        stops("g7;g7;g7", 2, "6 2 6 7 7");
        stops("p2;p2", 1, "6 2");
        stops("p0;g6;g6", 2, "2 6 6");
    }

    private static void partBetweenThrows() {
        for (String part : THROWING) {
            stops("g1;" + part.replace("p3", "p4").replace("f3", "f4").replace("3>", "4>").replace(">3", ">4")
                    + ";g0;g0", 1, "6 2 6 1");
        }
        stops("b;b", 0, "6 2 6");
        SteppedSpines spines = Steps.bookOf(1, 0);
        Checks.due("work of two books", Steps.work(spines, "b;g0;b;b;g1"), 3);
        Checks.due("books", spines.count(12), 2);
        Checks.due("the stop", spines.count(14), 3);
        Checks.due("sheets", spines.count(0), 0);
    }

    private static void fullBlock() {
        SteppedSpines spines = Steps.fullBlock();
        Checks.due("work of a part too many", Steps.work(spines, "g10"), 0);
        Checks.due("the places at the back", Steps.work(spines, "f19;m19>0;m0>19;f19;p19;g10"), 6);
        Checks.due("its last sheet", spines.sheet(19, 0), 10);
        Checks.due("it lies right", spines.sheet(19, 1), 0);
        Checks.due("the places behind a block of 19", Steps.work(spines, "p0;p19"), 1);
        Checks.due("the places behind a block of 19", Steps.work(spines, "f19"), 0);
        Checks.due("the places behind a block of 19", Steps.work(spines, "m0>19"), 0);
        Checks.due("the places behind a block of 19", Steps.work(spines, "m19>0"), 0);
        Checks.due("the 20th sheet and the 21st", Steps.work(spines, "f18;g15;g15;g15"), 2);
        Checks.due("the stop", spines.count(14), 2);
        Checks.due("sheets", spines.count(0), 20);
    }

    private static void otherCallsLeaveTheStop() {
        SteppedSpines spines = Steps.bookOf(2, 0, 1);
        Steps.work(spines, "f0;f0;p7;b");
        Steps.Calls[] calls = {
            other -> other.bind(), other -> other.gather(3), other -> other.insert(0, 4), other -> other.flip(0),
            other -> other.move(0, 1), other -> other.pull(0), other -> other.print(1, 1), other -> other.punch(1, 1),
            other -> other.set(0, 4), other -> other.append('b'), other -> other.clearBuffer(), other -> other.keep(),
            other -> other.goBack(), other -> Checks.thrownBy(other::work), other -> other.digest(),
        };
        for (int i = 0; i < calls.length; i++) {
            calls[i].on(spines);
            Checks.due("the stop behind the call " + i, spines.count(14), 2);
        }
    }

    private static void latestStop() {
        SteppedSpines spines = new SteppedSpines();
        Checks.due("the stop at first", spines.count(14), -1);
        Steps.work(spines, "g1;g1;g1");
        Checks.due("a stop", spines.count(14), 2);
        spines.gather(2);
        spines.pull(0);
        spines.set(0, 1);
        Steps.type(spines, "b;");
        Checks.thrownBy(spines::work);
        Checks.due("the stop stays", spines.count(14), 2);
        spines.clearBuffer();
        spines.keep();
        Steps.work(spines, "f0");
        Checks.due("no stop", spines.count(14), -1);
        Steps.work(spines, "p9");
        Checks.due("a stop at 0", spines.count(14), 0);
        Checks.due("undo", spines.undo(), 5);
        Checks.due("no stop again", spines.count(14), -1);
        Checks.due("undo", spines.undo(), 4);
        Checks.due("the stop again", spines.count(14), 2);
        Steps.work(spines, "f0");
        spines.goBack();
        Checks.due("the stop of the snapshot", spines.count(14), 2);
        SteppedSpines most = Steps.bookOf(1, 0);
        Checks.due("work of 30 parts", Steps.work(most, "b;g0;f0;f0;f0;f0;f0;f0;f0;f0;f0;f0;f0;f0;f0;f0;f0;f0;b;b"), 19);
        Checks.due("the stop", most.count(14), 19);
    }
}
