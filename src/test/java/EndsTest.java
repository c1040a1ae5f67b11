/** Promises 27 to 29: ends, scissors, nights. */
public final class EndsTest {
    private static final Due due = new Due("EndsTest");

    public static void main(String[] args) {
        endsOfNone();
        endsOfOne();
        scissors();
        nights();
        nightsPay();
        nothingIsChanged();
        due.end();
    }

    private static void ends(String what, StringToll x, int... pairs) {
        due.is(what + ": how many", x.ends(StringToll.NONE), pairs.length);
        for (int k = 0; k < pairs.length; k++) {
            due.is(what + ": the " + k + "-th", x.ends(k), pairs[k]);
        }
        due.is(what + ": not so many", x.ends(pairs.length), -5);
    }

    private static void endsOfNone() {
        StringToll x = new StringToll();
        int[] all = new int[36];
        for (int k = 0; k < 36; k++) {
            all[k] = 10 * (k / 6) + k % 6;
        }
        ends("no STRINGS", x, all);
        due.is("ends(max)", x.ends(Integer.MAX_VALUE), -5);
        due.is("ends(-2)", x.ends(-2), -10);
        due.is("ends(min)", x.ends(Integer.MIN_VALUE), -10);
        due.is("-10 is BAD, -5 is none", x.status(0) + x.status(1) + x.status(2), 2);
    }

    private static void endsOfOne() {
        StringToll x = new StringToll();
        x.province(2, 0);
        x.house(0, 5);
        x.string(0, 2);
        // it brings 1, so it is sent for 2 at most: 1 1 0 4 1 5 are charged on day 0 for the 2 that show
        ends("day 0", x, 0, 1, 4, 10, 11, 14, 33, 35, 40, 41, 44, 53, 55);
        x.waits(24);
        // a lazy end is a plain one on day 1
        ends("day 1", x, 0, 1, 2, 4, 10, 11, 12, 14, 20, 21, 22, 24, 33, 35, 40, 41, 42, 44, 53, 55);
        x.province(2, 0);
        x.string(1, 2);
        // silk shows nothing by night, so nothing is charged by any
        due.is("by night", x.ends(StringToll.NONE), 36);
        x.province(30, 0);
        x.string(0, 29);
        due.is("hail is not sent", x.ends(StringToll.NONE), 36);
    }

    private static void fraction(String what, StringToll x, int c, long above, long below) {
        due.is(what + ": scissors(" + c + ")", x.scissors(c), 1);
        due.is(what + ": above", x.part(0), above);
        due.is(what + ": below", x.part(1), below);
    }

    private static void scissors() {
        StringToll x = new StringToll();
        fraction("no STRINGS", x, 5, 0, 1);
        x.string(0, 41);
        // 41 brings 22, 20 brings 1
        fraction("one", x, 0, 22, 1);
        fraction("one", x, 10, 1, 1);
        fraction("one", x, 3, 157, 10);
        fraction("one", x, 5, 23, 2);
        x.string(5, 39);
        // 39 brings 20, 19 none
        fraction("two", x, 3, 297, 10);
        fraction("two", x, 5, 43, 2);
        fraction("two", x, 1, 379, 10);
        due.is("scissors(-1)", x.scissors(-1), StringToll.BAD);
        due.is("scissors(11)", x.scissors(11), StringToll.BAD);
        due.is("a refused one leaves it", x.part(0), 379);
        due.is("status(0)", x.status(0), 2);
        x.province(1, 0);
        x.string(0, 1);
        // a string of 1 is cut to nothing, which is hail
        fraction("cut to nothing", x, 4, 3, 5);
        fraction("cut to nothing", x, 10, 0, 1);
    }

    private static void nights() {
        StringToll x = new StringToll();
        x.province(1, 9999);
        x.string(0, 11);
        x.string(0, 22);
        x.string(0, 33);
        due.is("no hours", x.nights(0, 0), 0);
        due.is("X 12345: STRING 0", x.nights(0, 1), 11);
        due.is("X 1103527590: STRING 2", x.nights(1, 1), 33);
        due.is("X 59559187: STRING 2", x.nights(2, 1), 33);
        due.is("X 1163074432: a sixth, never there", x.nights(3, 1), 0);
        due.is("nights(-1, 1)", x.nights(-1, 1), StringToll.BAD);
        due.is("nights(1000000, 1)", x.nights(1000000, 1), StringToll.BAD);
        due.is("nights(0, -1)", x.nights(0, -1), StringToll.BAD);
        due.is("nights(0, 61)", x.nights(0, 61), StringToll.BAD);
        due.is("status(0)", x.status(0), 4);
        long x0 = 999999;
        int sum = 0;
        for (int n = 1; n <= 60; n++) {
            x0 = (x0 * 1103515245L + 12345L) & 0x7fffffffL;
            int i = (int) ((x0 >> 16) % 6);
            sum += i < 3 ? 11 * (i + 1) : 0;
            due.is("nights(999999, " + n + ")", x.nights(999999, n), sum);
        }
    }

    private static void nightsPay() {
        StringToll x = new StringToll();
        x.province(1, 12);
        for (int i = 0; i < 5; i++) {
            x.string(0, 5);
        }
        // each costs 6: two are paid, however many hours there are
        due.is("a purse for two", x.nights(7, 60), 10);
        x.province(1, 6);
        for (int i = 0; i < 5; i++) {
            x.string(1, 5);
        }
        long x0 = 7;
        int sum = 0;
        boolean paid = false;
        for (int h = 0; h < 60; h++) {
            x0 = (x0 * 1103515245L + 12345L) & 0x7fffffffL;
            boolean there = (x0 >> 16) % 6 < 5;
            boolean night = h % 24 < 6 || h % 24 >= 18;
            if (there && (night || !paid)) {
                sum += 5;
                paid |= !night;
            }
        }
        due.is("silk is free by night", x.nights(7, 60), sum);
    }

    private static void nothingIsChanged() {
        StringToll x = new StringToll();
        x.string(0, 30);
        x.waits(3);
        long before = x.digest();
        x.ends(-1);
        x.nights(5, 60);
        due.is("nothing is changed", x.digest(), before);
        due.is("what may be undone stays", x.count(4), 1);
    }
}
