/** What the tests check with: it prints each answer that is not the due one, and counts tests. */
final class Checks {
    interface Call {
        void run();
    }

    private static int passed = 0;
    private static int failed = 0;
    private static int wrong = 0;

    private Checks() {
    }

    static void test(String name, Call body) {
        wrong = 0;
        try {
            body.run();
        } catch (RuntimeException | Error e) {
            wrong++;
            System.out.println(name + ": stopped by " + e);
        }
        if (wrong == 0) {
            passed++;
        } else {
            failed++;
            System.out.println("FAILED " + name);
        }
    }

    static void due(String call, long got, long due) {
        if (got != due) {
            wrong++;
            System.out.println(call + " answered " + got + ", due is " + due);
        }
    }

    static void due(String call, double got, double due) {
        if (got != due) {
            wrong++;
            System.out.println(call + " answered " + got + ", due is " + due);
        }
    }

    static void due(String what, String got, String due) {
        if (!got.equals(due)) {
            wrong++;
            System.out.println(what + " is " + got + ", due is " + due);
        }
    }

    /** The call throws exactly this exception, and changes nothing. */
    static void refused(SteppedSpines spines, String name, Class<?> exception, Call call) {
        long before = spines.digest();
        due(name + " throws", thrownBy(call), exception.getName());
        due(name + " leaves the digest", spines.digest(), before);
    }

    /** The same, and neither a saved state nor the snapshot is changed: held against a twin without the call. */
    static void refused(Steps.Maker maker, String name, Class<?> exception, Steps.Calls call) {
        SteppedSpines spines = maker.make();
        due(name + " throws", thrownBy(() -> call.on(spines)), exception.getName());
        due(name + " leaves", Steps.story(spines), Steps.story(maker.make()));
    }

    static String thrownBy(Call call) {
        try {
            call.run();
        } catch (RuntimeException | Error e) {
            return e.getClass().getName();
        }
        return "nothing";
    }

    static boolean closeWith(String name) {
        System.out.println(name);
        System.out.println(passed + " passed, " + failed + " failed");
        return failed == 0;
    }
}
