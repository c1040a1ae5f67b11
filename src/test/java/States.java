/** Objects that tests begin from, each made anew by the same calls. */
final class States {
    static final String TEXT = "province 9;house 0 4;string 5 50;purse 9;send 0;wait 7;";

    private States() {
    }

    /** Something of all there is, nothing full. */
    static StringToll some() {
        StringToll x = new StringToll();
        x.province(10, 900);
        x.house(0, 3);
        x.house(1, 1);
        x.string(0, 12);
        x.string(3, 20);
        x.image(0);
        x.string(1, 33);
        seen(x);
        x.sends(0);
        x.waits(4);
        x.scissors(3);
        Due.type(x, TEXT);
        x.undo();
        x.waits(9);
        x.sends(1);
        return x;
    }

    /** All that has an end is at it: STRINGS, CAME, NOTES, MARKS, what may be undone, THE TEXT, IMAGES, the HOUR. */
    static StringToll full() {
        StringToll x = new StringToll();
        x.province(10, 9999);
        for (int i = 0; i < 5; i++) {
            x.string(i, 10 + 11 * i);
        }
        x.house(0, 2);
        x.house(1, 5);
        x.scissors(7);
        for (int k = 0; k < 6; k++) {
            seen(x);
        }
        x.image(0);
        toHour(x, 9990);
        for (int k = 0; k < 9; k++) {
            x.sends(k % 5);
        }
        x.image(1);
        Due.type(x, TEXT + "wait 1;".repeat(13) + "    ");
        return x;
    }

    private static void seen(StringToll x) {
        x.came(12, 3);
        x.note(1, 2, 3, 7);
        x.mark(1, 20, 2, 12);
    }

    /** Waits until an HOUR that is not past. */
    static void toHour(StringToll x, int hour) {
        for (int left = hour - x.now(6); left > 0; left -= 99) {
            x.waits(Math.min(left, 99));
        }
    }

    /** A province, and strings in it: kind, length, kind, length. */
    static StringToll of(int line, int purse, int... strings) {
        StringToll x = new StringToll();
        x.province(line, purse);
        for (int k = 0; k + 1 < strings.length; k += 2) {
            x.string(strings[k], strings[k + 1]);
        }
        return x;
    }
}
