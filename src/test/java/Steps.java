/** Steps that the tests of the promises share. */
final class Steps {
    static final Class<?> BOUNDS = IndexOutOfBoundsException.class;
    static final Class<?> ARGUMENT = IllegalArgumentException.class;
    static final Class<?> STATE = IllegalStateException.class;

    private Steps() {
    }

    static SteppedSpines gathered(int... numbers) {
        SteppedSpines spines = new SteppedSpines();
        gather(spines, numbers);
        return spines;
    }

    static void gather(SteppedSpines spines, int... numbers) {
        for (int number : numbers) {
            spines.gather(number);
        }
    }

    /** A book of fewer sheets, with these sheets gathered. */
    static SteppedSpines bookOf(int sheets, int... numbers) {
        SteppedSpines spines = new SteppedSpines();
        spines.set(0, sheets);
        gather(spines, numbers);
        return spines;
    }

    static SteppedSpines fullBlock() {
        return gathered(0, 1, 2, 3, 4, 5, 6, 7, 8, 9, 0, 1, 2, 3, 4, 5, 6, 7, 8, 9);
    }

    static int type(SteppedSpines spines, String text) {
        int length = 0;
        for (int i = 0; i < text.length(); i++) {
            length = spines.append(text.charAt(i));
        }
        return length;
    }

    static int work(SteppedSpines spines, String text) {
        type(spines, text);
        return spines.work();
    }

    /** The numbers of the sheets, each upside down one with a "-" behind it. */
    static String block(SteppedSpines spines) {
        StringBuilder text = new StringBuilder();
        for (int place = 0; place < spines.count(0); place++) {
            text.append(place == 0 ? "" : " ").append(spines.sheet(place, 0));
            text.append(spines.sheet(place, 1) == 1 ? "-" : "");
        }
        return text.toString();
    }

    /** Makes an object by the same calls, each time. */
    interface Maker {
        SteppedSpines make();
    }

    /** Some calls on an object. */
    interface Calls {
        void on(SteppedSpines spines);
    }

    /**
     * All that an object holds, the saved states and the snapshot too: its digest, and those behind
     * each undo() and behind goBack(). The object is used up by it.
     */
    static String story(SteppedSpines spines) {
        StringBuilder text = new StringBuilder().append(spines.digest());
        for (int left = spines.count(15); left > 0; left--) {
            spines.undo();
            text.append(" undone ").append(spines.digest());
        }
        if (Checks.thrownBy(spines::goBack).equals("nothing")) {
            text.append(" kept ").append(spines.digest());
        }
        return text.toString();
    }

    /**
     * An object with something of each kind: a bound book, a stop, a block with like sheets, one of
     * them upside down, an empty bin (3), one of 82 copies (5), other holes and settings, six saved
     * states, a snapshot of another block, and characters in the buffer.
     */
    static SteppedSpines rich() {
        SteppedSpines spines = bookOf(2, 0, 1);
        spines.bind();
        work(spines, "g3;g3;p9");
        for (int i = 0; i < 4; i++) {
            spines.print(5, 20);
        }
        spines.punch(3, 6);
        spines.set(1, 4);
        spines.flip(1);
        spines.keep();
        spines.gather(7);
        type(spines, "g1;m");
        return spines;
    }

    /** The call saves exactly one state, and undo() takes back all that it changed. */
    static void undoable(SteppedSpines spines, String name, Checks.Call call) {
        long before = spines.digest();
        int saved = spines.count(15);
        call.run();
        Checks.due(name + " saves a state", spines.count(15), Math.min(6, saved + 1));
        Checks.due("undo() of " + name, spines.undo(), Math.min(5, saved));
        if (saved < 6) {
            Checks.due(name + " is undone", spines.digest(), before);
        }
    }

    /** The digest as the document tells it, reckoned from the answers of the other calls. */
    static long digestOf(SteppedSpines spines, boolean kept, String buffer) {
        long hash = 3853;
        for (int what = 0; what <= 15; what++) {
            hash = 31 * hash + spines.count(what);
        }
        for (int which = 0; which <= 2; which++) {
            hash = 31 * hash + spines.setting(which);
        }
        for (int place = 0; place < spines.count(0); place++) {
            for (int what = 0; what <= 5; what++) {
                hash = 31 * hash + spines.sheet(place, what);
            }
            for (int what = 0; what <= 3; what++) {
                hash = 31 * hash + spines.ifPulled(place, what);
            }
        }
        for (int number = 0; number <= 15; number++) {
            for (int what = 0; what <= 4; what++) {
                hash = 31 * hash + spines.bin(number, what);
            }
        }
        hash = 31 * hash + spines.nextMove();
        hash = 31 * hash + spines.fits();
        hash = 31 * hash + spines.books();
        hash = 31 * hash + Double.doubleToLongBits(spines.stairShare());
        hash = 31 * hash + Float.floatToIntBits(spines.meanThread());
        hash = 31 * hash + (kept ? 1 : 0);
        hash = 31 * hash + buffer.length();
        for (int i = 0; i < buffer.length(); i++) {
            hash = 31 * hash + buffer.charAt(i);
        }
        return hash;
    }
}
