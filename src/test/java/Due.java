/** Counts the answers that are not the ones due, and ends a test. */
final class Due {
    private final String test;
    private int checked;
    private int wrong;

    Due(String test) {
        this.test = test;
    }

    void is(String call, long got, long want) {
        checked++;
        if (got != want) {
            wrong++;
            System.out.println(test + ": " + call + " answered " + got + ", due is " + want);
        }
    }

    void holds(String what, boolean so) {
        is(what, so ? 1 : 0, 1);
    }

    void end() {
        System.out.println(test + ": " + checked + " answers, " + wrong + " not as due");
        System.exit(wrong == 0 && checked > 0 ? 0 : 1);
    }

    /** Puts a text in the place of the one that was there, and reads it. */
    static int read(StringToll x, String text) {
        x.clear();
        for (int i = 0; i < text.length(); i++) {
            x.type(text.charAt(i));
        }
        return x.read();
    }
}
