/** What the tests ask of the program. */
final class Due {
    private Due() {
    }

    static JudgeFirst told(String text) {
        JudgeFirst x = new JudgeFirst();
        feed(x, text);
        int lines = x.text();
        if (lines < 0) {
            throw new AssertionError("the text '" + text + "' answered " + lines);
        }
        return x;
    }

    static void feed(JudgeFirst x, String text) {
        for (int i = 0; i < text.length(); i++) {
            int many = x.feed(text.charAt(i));
            if (many < 0) {
                throw new AssertionError("byte " + i + " of '" + text + "' answered " + many);
            }
        }
    }

    static void due(long want, long got) {
        if (want != got) {
            throw new AssertionError("due is " + want + ", answered was " + got);
        }
    }
}
