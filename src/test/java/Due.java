import java.util.function.LongSupplier;

/** What the tests ask of the program: an answer that is due, a refusal that changes nothing. */
final class Due {
    private Due() {
    }

    static JudgeFirst told(String text) {
        JudgeFirst x = new JudgeFirst();
        feed(x, text);
        int lines = x.text();
        if (lines < 0) {
            throw new AssertionError("the text '" + text + "' answered " + lines);
        }
        return x;
    }

    static void feed(JudgeFirst x, String text) {
        for (int i = 0; i < text.length(); i++) {
            x.feed(text.charAt(i));
        }
    }

    static void due(long want, long got) {
        if (want != got) {
            throw new AssertionError("due is " + want + ", answered was " + got);
        }
    }

    static void due(String want, String got) {
        if (!want.equals(got)) {
            throw new AssertionError("due is\n  " + want + "\nthere was\n  " + got);
        }
    }

    static void refused(JudgeFirst x, long want, LongSupplier call) {
        String before = all(x);
        due(want, call.getAsLong());
        due(before, all(x));
    }

    /** All that can be asked of an object without a change. */
    static String all(JudgeFirst x) {
        StringBuilder s = new StringBuilder(state(x));
        for (int what = 0; what <= 3; what++) {
            s.append(" count").append(what).append('=').append(x.count(what));
        }
        s.append(" fault=").append(x.fault()).append(" torn=").append(x.torn());
        return s.toString();
    }

    /** What an image holds, as far as it can be asked. */
    static String state(JudgeFirst x) {
        StringBuilder s = new StringBuilder("rule");
        for (int what = 0; what <= 6; what++) {
            s.append(' ').append(x.rule(what));
        }
        for (int j = 0; j < x.rule(0); j++) {
            s.append(" judge").append(j);
            for (int what = 0; what <= 5; what++) {
                s.append(' ').append(x.judge(j, what));
            }
            s.append(" kinds ").append(x.kinds(j));
        }
        for (int c = 0; c < x.rule(1); c++) {
            s.append(" suit").append(c);
            for (int what = 0; what <= 5; what++) {
                s.append(' ').append(x.suit(c, what));
            }
            s.append(" terms ").append(x.terms(c, 0));
        }
        return s.append(" seen ").append(x.count(0)).toString();
    }
}
