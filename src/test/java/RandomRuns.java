import java.util.ArrayList;
import java.util.List;

/** Long runs of calls, drawn by a fixed rule, whose answers are held against those of the model. */
final class RandomRuns {
    private static final int RUNS = 320;
    private static final int CALLS = 512;
    private static final int[] ODD_NUMBERS = {-1, 16, 20, 21, 99, -20, Integer.MAX_VALUE, Integer.MIN_VALUE};

    private long seed;
    private SteppedSpines spines;
    private Model model;
    private String call;
    /** By turns, runs come to full blocks, to long texts, and to full bins. */
    private boolean growing;
    private boolean writing;
    private boolean printing;
    private final List<String> queue = new ArrayList<>();

    private RandomRuns(long seed) {
        this.seed = seed;
    }

    static void runAll() {
        for (int i = 0; i < RUNS; i += 40) {
            int first = i;
            Checks.test("random runs from " + first, () -> {
                for (int run = first; run < first + 40; run++) {
                    new RandomRuns(1000003L * run + 17).oneRun(run);
                }
            });
        }
    }

    private int draw(int below) {
        seed = seed * 6364136223846793005L + 1442695040888963407L;
        return (int) ((seed >>> 33) % below);
    }

    private int odd(int usual) {
        return draw(25) == 0 ? ODD_NUMBERS[draw(ODD_NUMBERS.length)] : usual;
    }

    /** 512 calls in all: an object is used for no more. */
    private void oneRun(int run) {
        spines = new SteppedSpines();
        model = new Model();
        growing = run % 4 == 0;
        writing = run % 4 == 1;
        printing = run % 4 == 2;
        int calls = 0;
        if (run % 3 > 0) {
            spines.set(0, 1 + run % 5);
            model.set(0, 1 + run % 5);
            calls++;
        }
        while (calls < CALLS) {
            calls++;
            long due = calls % 4 == 0 ? digest() : oneCall();
            long got = answer(due);
            if (got != due) {
                Checks.due("run " + run + ", call " + calls + ": " + call, got, due);
                return;
            }
        }
    }

    private long digest() {
        pending = spines::digest;
        call = "digest()";
        return model.digest();
    }

    private interface Answer {
        long told();
    }

    private Answer pending;

    private long answer(long due) {
        try {
            return pending.told();
        } catch (RuntimeException e) {
            return e.getClass() == IndexOutOfBoundsException.class ? Model.BOUNDS
                    : e.getClass() == IllegalArgumentException.class ? Model.ARGUMENT
                    : e.getClass() == IllegalStateException.class ? Model.STATE : due + 1;
        }
    }

    /** Draws a call; answers what the model does, and lets the class's own answer wait. */
    private long oneCall() {
        if (!queue.isEmpty()) {
            return append(queue.remove(0).charAt(0));
        }
        int kind = draw(100);
        if (kind < (growing ? 2 : 22)) {
            return mend();
        }
        if (kind < 45) {
            return change(draw(growing && draw(4) > 0 ? 16 : 45));
        }
        if (kind < 62) {
            return text(kind);
        }
        return look(kind);
    }

    private int place() {
        return odd(draw((int) model.count(0) + 1));
    }

    private int number() {
        int fitting = (int) model.fits();
        int missing = (int) model.count(4);
        int way = draw(6);
        return way < 2 && fitting >= 0 ? fitting : way < 4 && missing >= 0 ? missing : odd(draw(16));
    }

    /** Does what takes the fault away, or binds the block: so that runs come to books. */
    private long mend() {
        int place = (int) model.count(3);
        int missing = (int) model.count(4);
        switch ((int) model.count(2)) {
            case 2: return flip(place);
            case 3:
            case 4: return pull(place);
            case 6: return move((int) model.nextMove() / 20, (int) model.nextMove() % 20);
            case 0: return bind();
            default: return model.bin(missing, 0) == 0 ? print(missing, 1 + draw(3)) : gather(missing);
        }
    }

    private long change(int kind) {
        if (kind < 12) {
            return gather(number());
        }
        if (kind < 16) {
            return insert(place(), number());
        }
        if (kind < 20) {
            return pull(place());
        }
        if (kind < 24) {
            return flip(place());
        }
        if (kind < 30) {
            return move(place(), place());
        }
        return kind < 32 ? bind() : changeBins(kind);
    }

    private long gather(int a) {
        pending = () -> spines.gather(a);
        call = "gather(" + a + ")";
        return model.gather(a);
    }

    private long insert(int a, int b) {
        pending = () -> spines.insert(a, b);
        call = "insert(" + a + ", " + b + ")";
        return model.insert(a, b);
    }

    private long pull(int a) {
        pending = () -> spines.pull(a);
        call = "pull(" + a + ")";
        return model.pull(a);
    }

    private long flip(int a) {
        pending = () -> spines.flip(a);
        call = "flip(" + a + ")";
        return model.flip(a);
    }

    private long move(int a, int b) {
        pending = () -> spines.move(a, b);
        call = "move(" + a + ", " + b + ")";
        return model.move(a, b);
    }

    private long bind() {
        pending = spines::bind;
        call = "bind()";
        return model.bind();
    }

    private long print(int a, int b) {
        pending = () -> spines.print(a, b);
        call = "print(" + a + ", " + b + ")";
        return model.print(a, b);
    }

    private long changeBins(int kind) {
        if (kind < 37) {
            return printing ? print(draw(2), odd(12 + draw(9))) : print(number(), odd(1 + draw(20)));
        }
        if (kind < 40) {
            int a = number();
            int b = odd(draw(33));
            pending = () -> spines.punch(a, b);
            call = "punch(" + a + ", " + b + ")";
            return model.punch(a, b);
        }
        if (kind < 42) {
            int a = odd(draw(3));
            int b = odd(draw(draw(2) == 0 ? 6 : 18));
            pending = () -> spines.set(a, b);
            call = "set(" + a + ", " + b + ")";
            return model.set(a, b);
        }
        pending = spines::undo;
        call = "undo()";
        return model.undo();
    }

    private long append(int code) {
        pending = () -> spines.append(code);
        call = "append(" + code + ")";
        return model.append(code);
    }

    private long text(int kind) {
        boolean isSpoiled = model.firstError() < model.buffer().length();
        if (isSpoiled && draw(3) == 0) {
            pending = spines::clearBuffer;
            call = "clearBuffer()";
            return model.clearBuffer();
        }
        boolean isShort = writing && model.buffer().length() < 25 + draw(40);
        if (kind < 49 || kind < 57 && isShort) {
            String text = (model.buffer().isEmpty() ? "" : ";") + part();
            for (int i = 1; i < text.length(); i++) {
                queue.add(text.substring(i, i + 1));
            }
            return append(text.charAt(0));
        }
        if (kind < 51 && draw(8) == 0) {
            return append(odd("gpfmb;>0123456789x~! ".charAt(draw(21))));
        }
        if (kind < 52) {
            pending = spines::clearBuffer;
            call = "clearBuffer()";
            return model.clearBuffer();
        }
        if (kind < 55) {
            pending = spines::firstError;
            call = "firstError()";
            return model.firstError();
        }
        if (kind < 57) {
            pending = spines::work;
            call = "work()";
            return model.work();
        }
        if (kind < 59) {
            pending = spines::keep;
            call = "keep()";
            return model.keep();
        }
        pending = spines::goBack;
        call = "goBack()";
        return model.goBack();
    }

    /** Mostly a part that can be done; at times one that stops the work, or a number that no text may have. */
    private String part() {
        int missing = (int) model.count(4);
        switch (draw(10)) {
            case 0:
            case 1:
            case 2: return "g" + (missing >= 0 && draw(2) == 0 ? missing : draw(16));
            case 3: return "p" + textNumber();
            case 4: return "f" + textNumber();
            case 5: return "m" + textNumber() + ">" + textNumber();
            case 6: return mendingPart();
            case 7: return "b";
            case 8: return mendingPart() + ";b";
            default: return draw(4) == 0 ? "g1" + draw(10) : "g" + draw(10);
        }
    }

    private int textNumber() {
        return draw(40) == 0 ? 15 + draw(10) : draw((int) model.count(0) + 1);
    }

    private String mendingPart() {
        long place = model.count(3);
        long move = model.nextMove();
        switch ((int) model.count(2)) {
            case 2: return "f" + place;
            case 3:
            case 4: return "p" + place;
            case 6: return "m" + move / 20 + ">" + move % 20;
            case 0: return "b";
            default: return "g" + model.count(4);
        }
    }

    private long look(int kind) {
        if (kind < 70) {
            int a = odd(draw(16));
            pending = () -> spines.count(a);
            call = "count(" + a + ")";
            return model.count(a);
        }
        if (kind < 76) {
            int a = place();
            int b = odd(draw(6));
            pending = () -> spines.sheet(a, b);
            call = "sheet(" + a + ", " + b + ")";
            return model.sheet(a, b);
        }
        if (kind < 79) {
            int a = number();
            int b = odd(draw(5));
            pending = () -> spines.bin(a, b);
            call = "bin(" + a + ", " + b + ")";
            return model.bin(a, b);
        }
        if (kind < 81) {
            int a = odd(draw(3));
            pending = () -> spines.setting(a);
            call = "setting(" + a + ")";
            return model.setting(a);
        }
        if (kind < 87) {
            int a = place();
            int b = odd(draw(4));
            pending = () -> spines.ifPulled(a, b);
            call = "ifPulled(" + a + ", " + b + ")";
            return model.ifPulled(a, b);
        }
        return lookAhead(kind);
    }

    private long lookAhead(int kind) {
        if (kind < 91) {
            pending = spines::nextMove;
            call = "nextMove()";
            return model.nextMove();
        }
        if (kind < 94) {
            pending = spines::fits;
            call = "fits()";
            return model.fits();
        }
        if (kind < 96) {
            pending = spines::books;
            call = "books()";
            return model.books();
        }
        if (kind < 98) {
            pending = () -> Double.doubleToRawLongBits(spines.stairShare());
            call = "stairShare()";
            return Double.doubleToRawLongBits(model.stairShare());
        }
        pending = () -> Float.floatToRawIntBits(spines.meanThread());
        call = "meanThread()";
        return Float.floatToRawIntBits(model.meanThread());
    }
}
