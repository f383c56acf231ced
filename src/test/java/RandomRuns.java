import java.util.ArrayList;
import java.util.List;

/** Long runs of calls, drawn by a fixed rule, whose answers are held against those of the model. */
final class RandomRuns {
    private static final int RUNS = 240;
    private static final int CALLS = 512;
    private static final int[] ODD_NUMBERS = {-1, 16, 20, 21, 99, -20, Integer.MAX_VALUE, Integer.MIN_VALUE};

    private long seed;
    private SteppedSpines spines;
    private Model model;
    private String call;
    private final List<String> queue = new ArrayList<>();

    private RandomRuns(long seed) {
        this.seed = seed;
    }

    static void runAll() {
        for (int i = 0; i < RUNS; i += 40) {
            int first = i;
            Checks.test("random runs from " + first, () -> {
                for (int run = first; run < first + 40; run++) {
                    new RandomRuns(1000003L * run + 17).oneRun(run);
                }
            });
        }
    }

    private int draw(int below) {
        seed = seed * 6364136223846793005L + 1442695040888963407L;
        return (int) ((seed >>> 33) % below);
    }

    private int odd(int usual) {
        return draw(25) == 0 ? ODD_NUMBERS[draw(ODD_NUMBERS.length)] : usual;
    }

    private void oneRun(int run) {
        spines = new SteppedSpines();
        model = new Model();
        for (int i = 0; i < CALLS; i++) {
            long due = oneCall(i);
            long got = answer(due);
            if (got != due) {
                Checks.due("run " + run + ", call " + i + ": " + call, got, due);
                return;
            }
            if (i % 3 == 0 && !sameDigest()) {
                Checks.due("run " + run + ", the digest behind call " + i + ": " + call, 0, 1);
                return;
            }
        }
        lookAtAll(run);
    }

    private boolean sameDigest() {
        return spines.digest() == Steps.digestOf(spines, model.kept(), model.buffer());
    }

    private void lookAtAll(int run) {
        for (int what = 0; what < 16; what++) {
            Checks.due("run " + run + " count(" + what + ")", spines.count(what), model.count(what));
        }
        for (int number = 0; number < 16; number++) {
            for (int what = 0; what < 5; what++) {
                Checks.due("run " + run + " bin", spines.bin(number, what), model.bin(number, what));
            }
        }
    }

    private interface Answer {
        long told();
    }

    private Answer pending;

    private long answer(long due) {
        try {
            return pending.told();
        } catch (RuntimeException e) {
            return e.getClass() == IndexOutOfBoundsException.class ? Model.BOUNDS
                    : e.getClass() == IllegalArgumentException.class ? Model.ARGUMENT
                    : e.getClass() == IllegalStateException.class ? Model.STATE : due + 1;
        }
    }

    /** Draws a call; answers what the model does, and lets the class's own answer wait. */
    private long oneCall(int index) {
        if (!queue.isEmpty()) {
            return append(queue.remove(0).charAt(0));
        }
        int kind = draw(100);
        if (kind < 45) {
            return change(kind);
        }
        if (kind < 62) {
            return text(kind);
        }
        return look(kind);
    }

    private int place() {
        return odd(draw((int) model.count(0) + 1));
    }

    private int number() {
        int fitting = (int) model.fits();
        int missing = (int) model.count(4);
        int way = draw(6);
        return way < 2 && fitting >= 0 ? fitting : way < 4 && missing >= 0 ? missing : odd(draw(16));
    }

    private long change(int kind) {
        if (kind < 14) {
            int a = number();
            pending = () -> spines.gather(a);
            call = "gather(" + a + ")";
            return model.gather(a);
        }
        if (kind < 17) {
            int a = place();
            int b = number();
            pending = () -> spines.insert(a, b);
            call = "insert(" + a + ", " + b + ")";
            return model.insert(a, b);
        }
        if (kind < 21) {
            int a = place();
            pending = () -> spines.pull(a);
            call = "pull(" + a + ")";
            return model.pull(a);
        }
        if (kind < 23) {
            int a = place();
            pending = () -> spines.flip(a);
            call = "flip(" + a + ")";
            return model.flip(a);
        }
        if (kind < 30) {
            int best = (int) model.nextMove();
            boolean takeBest = best >= 0 && draw(3) > 0;
            int a = takeBest ? best / 20 : place();
            int b = takeBest ? best % 20 : place();
            pending = () -> spines.move(a, b);
            call = "move(" + a + ", " + b + ")";
            return model.move(a, b);
        }
        if (kind < 34) {
            pending = spines::bind;
            call = "bind()";
            return model.bind();
        }
        return changeBins(kind);
    }

    private long changeBins(int kind) {
        if (kind < 37) {
            int a = number();
            int b = odd(1 + draw(20));
            pending = () -> spines.print(a, b);
            call = "print(" + a + ", " + b + ")";
            return model.print(a, b);
        }
        if (kind < 40) {
            int a = number();
            int b = odd(draw(33));
            pending = () -> spines.punch(a, b);
            call = "punch(" + a + ", " + b + ")";
            return model.punch(a, b);
        }
        if (kind < 42) {
            int a = odd(draw(3));
            int b = odd(draw(draw(2) == 0 ? 6 : 18));
            pending = () -> spines.set(a, b);
            call = "set(" + a + ", " + b + ")";
            return model.set(a, b);
        }
        pending = spines::undo;
        call = "undo()";
        return model.undo();
    }

    private long append(int code) {
        pending = () -> spines.append(code);
        call = "append(" + code + ")";
        return model.append(code);
    }

    private long text(int kind) {
        if (kind < 49) {
            typePart();
            return append(model.buffer().isEmpty() ? 'b' : ';');
        }
        if (kind < 51) {
            return append(odd("gpfmb;>0123456789x~! ".charAt(draw(21))));
        }
        if (kind < 52) {
            pending = spines::clearBuffer;
            call = "clearBuffer()";
            return model.clearBuffer();
        }
        if (kind < 55) {
            pending = spines::firstError;
            call = "firstError()";
            return model.firstError();
        }
        if (kind < 59) {
            pending = spines::work;
            call = "work()";
            return model.work();
        }
        if (kind < 60) {
            pending = spines::keep;
            call = "keep()";
            return model.keep();
        }
        pending = spines::goBack;
        call = "goBack()";
        return model.goBack();
    }

    private void typePart() {
        String[] letters = {"g", "g", "g", "p", "f", "m"};
        String letter = letters[draw(letters.length)];
        String text = letter + draw(draw(2) == 0 ? 5 : 20);
        text += letter.equals("m") ? ">" + draw(6) : "";
        text += draw(6) == 0 ? ";b" : "";
        for (int i = 0; i < text.length(); i++) {
            queue.add(text.substring(i, i + 1));
        }
        if (model.buffer().length() % 7 == 0) {
            queue.clear();
        }
    }

    private long look(int kind) {
        if (kind < 70) {
            int a = odd(draw(16));
            pending = () -> spines.count(a);
            call = "count(" + a + ")";
            return model.count(a);
        }
        if (kind < 76) {
            int a = place();
            int b = odd(draw(6));
            pending = () -> spines.sheet(a, b);
            call = "sheet(" + a + ", " + b + ")";
            return model.sheet(a, b);
        }
        if (kind < 79) {
            int a = number();
            int b = odd(draw(5));
            pending = () -> spines.bin(a, b);
            call = "bin(" + a + ", " + b + ")";
            return model.bin(a, b);
        }
        if (kind < 81) {
            int a = odd(draw(3));
            pending = () -> spines.setting(a);
            call = "setting(" + a + ")";
            return model.setting(a);
        }
        if (kind < 87) {
            int a = place();
            int b = odd(draw(4));
            pending = () -> spines.ifPulled(a, b);
            call = "ifPulled(" + a + ", " + b + ")";
            return model.ifPulled(a, b);
        }
        return lookAhead(kind);
    }

    private long lookAhead(int kind) {
        if (kind < 91) {
            pending = spines::nextMove;
            call = "nextMove()";
            return model.nextMove();
        }
        if (kind < 94) {
            pending = spines::fits;
            call = "fits()";
            return model.fits();
        }
        if (kind < 96) {
            pending = spines::books;
            call = "books()";
            return model.books();
        }
        if (kind < 98) {
            pending = () -> Double.doubleToRawLongBits(spines.stairShare());
            call = "stairShare()";
            return Double.doubleToRawLongBits(model.stairShare());
        }
        pending = () -> Float.floatToRawIntBits(spines.meanThread());
        call = "meanThread()";
        return Float.floatToRawIntBits(model.meanThread());
    }
}
