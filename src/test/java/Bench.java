import java.util.ArrayList;
import java.util.List;
import java.util.function.Consumer;
import java.util.function.ToLongFunction;

/** A bench that is set up anew for each question: an object is good for 512 calls alone. */
final class Bench {
    private final List<Consumer<JudgeFirst>> steps;

    private Bench(List<Consumer<JudgeFirst>> steps) {
        this.steps = steps;
    }

    /** A new object. */
    static Bench nobody() {
        return new Bench(List.of());
    }

    static Bench told(String text) {
        return nobody().fed(text).then(JudgeFirst::text);
    }

    private Bench with(Consumer<JudgeFirst> step) {
        List<Consumer<JudgeFirst>> more = new ArrayList<>(steps);
        more.add(step);
        return new Bench(more);
    }

    /** The same, and one call more, which is not refused. */
    Bench then(ToLongFunction<JudgeFirst> call) {
        return with(x -> {
            long answer = call.applyAsLong(x);
            if (answer < 0) {
                throw new AssertionError("a bench could not be set up: " + answer);
            }
        });
    }

    /** The same, and one call more, which answers so. */
    Bench then(long want, ToLongFunction<JudgeFirst> call) {
        return with(x -> Due.due(want, call.applyAsLong(x)));
    }

    /** The same, with bytes behind those on the tape. */
    Bench fed(String text) {
        return with(x -> Due.feed(x, text));
    }

    /** The same, with a sheet of these cells. */
    Bench laid(int k, int lane, int... cells) {
        return with(x -> {
            Due.due(1, x.sheet(k, lane, cells.length));
            for (int i = 0; i < cells.length; i++) {
                Due.due(1, x.lay(k, i, cells[i]));
            }
        });
    }

    JudgeFirst set() {
        JudgeFirst x = new JudgeFirst();
        steps.forEach(step -> step.accept(x));
        return x;
    }

    /** What a call answers on a bench of its own. */
    void answers(long want, ToLongFunction<JudgeFirst> call) {
        Due.due(want, call.applyAsLong(set()));
    }

    /** What a call answers, behind which nothing is other than before: a refusal, or a call that only asks. */
    void asks(long want, ToLongFunction<JudgeFirst> call) {
        JudgeFirst asked = set();
        Due.due(want, call.applyAsLong(asked));
        Trace.alike(set(), asked);
    }
}
