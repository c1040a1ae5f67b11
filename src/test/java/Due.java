/** Counts the answers that are not the ones due, and ends a test. */
final class Due {
    private final String test;
    private String sentence = "";
    private int checked;
    private int wrong;

    Due(String test) {
        this.test = test;
    }

    /** The sentence of the document that the answers from here on hold to; SentencesTest looks for it there. */
    void says(String words) {
        sentence = words;
    }

    void is(String call, long got, long want) {
        checked++;
        if (got != want) {
            wrong++;
            System.out.println(test + ": " + call + " answered " + got + ", due is " + want + told());
        }
    }

    void holds(String what, boolean so) {
        is(what, so ? 1 : 0, 1);
    }

    void end() {
        System.out.println(test + ": " + checked + " answers, " + wrong + " not as due");
        System.exit(wrong == 0 && checked > 0 ? 0 : 1);
    }

    private String told() {
        return sentence.isEmpty() ? "" : ", by: " + sentence;
    }

    /** Puts a text in the place of the one that was there. */
    static void type(StringToll x, String text) {
        x.clear();
        for (int i = 0; i < text.length(); i++) {
            x.type(text.charAt(i));
        }
    }

    /** Puts a text in the place of the one that was there, and reads it. */
    static int read(StringToll x, String text) {
        type(x, text);
        return x.read();
    }
}
