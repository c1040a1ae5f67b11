/** Promises 30 to 35: part, image, from, status, count, digest. */
public final class KeptTest {
    private static final Due due = new Due("KeptTest");

    public static void main(String[] args) {
        part();
        imagesKeep();
        imagesLeave();
        imagesAreApart();
        status();
        count();
        digest();
        constants();
        due.end();
    }

    private static void part() {
        StringToll x = new StringToll();
        due.is("part(-1)", x.part(-1), StringToll.BAD);
        due.is("part(2)", x.part(2), StringToll.BAD);
        due.is("status(0)", x.status(0), 2);
        due.is("part(0)", x.part(0), 0);
        due.is("part(1)", x.part(1), 1);
    }

    private static StringToll busy() {
        StringToll x = new StringToll();
        x.province(10, 500);
        x.house(0, 1);
        x.house(1, 4);
        x.string(0, 30);
        x.string(3, 11);
        x.sends(0);
        x.waits(5);
        x.sends(1);
        x.came(9, 0);
        x.came(12, 3);
        x.note(1, 2, 3, 7);
        x.mark(1, 20, 2, 12);
        return x;
    }

    private static void imagesKeep() {
        StringToll x = busy();
        long before = x.digest();
        due.is("image(0)", x.image(0), 1);
        due.is("an image changes nothing", x.digest(), before);
        x.undo();
        x.forget(0);
        x.forget(1);
        x.forget(2);
        x.string(5, 60);
        x.house(0, 5);
        x.waits(99);
        due.is("from(0)", x.from(0), 1);
        due.is("all is as it was", x.digest(), before);
        due.is("what may be undone, too", x.undo(), 6);
        due.is("and the next", x.undo(), 1);
        due.is("and the last", x.undo(), 0);
        due.is("purse", x.now(3), 500);
        due.is("from(0) again", x.from(0), 1);
        due.is("as it was", x.digest(), before);
        x.province(1, 1);
        due.is("from(0) behind a province", x.from(0), 1);
        due.is("as it was", x.digest(), before);
    }

    private static void imagesLeave() {
        StringToll x = busy();
        x.image(0);
        x.type('a');
        x.scissors(3);
        long above = x.part(0);
        x.now(9);
        x.from(0);
        due.is("THE TEXT goes on", x.count(5), 1);
        due.is("THE FRACTION goes on", x.part(0), above);
        due.is("STATUS goes on", x.status(0), 1);
    }

    private static void imagesAreApart() {
        StringToll x = busy();
        due.is("image(-1)", x.image(-1), StringToll.BAD);
        due.is("image(2)", x.image(2), StringToll.BAD);
        due.is("from(-1)", x.from(-1), StringToll.BAD);
        due.is("from(2)", x.from(2), StringToll.BAD);
        due.is("from(0)", x.from(0), StringToll.NO);
        x.image(1);
        due.is("from(0) still", x.from(0), StringToll.NO);
        x.province(44, 4);
        x.image(0);
        due.is("from(1)", x.from(1), 1);
        due.is("line", x.now(0), 10);
        due.is("from(0)", x.from(0), 1);
        due.is("line", x.now(0), 44);
        x.string(2, 2);
        due.is("from(0)", x.from(0), 1);
        due.is("an image is not changed by what goes on from it", x.count(0), 0);
        x.from(1);
        x.image(0);
        x.province(3, 3);
        x.from(0);
        due.is("an image takes the place of one", x.now(0), 10);
        due.is("status(0)", x.status(0), 4);
        due.is("status(1)", x.status(1), 2);
    }

    private static void status() {
        StringToll x = new StringToll();
        x.sends(0);
        x.undo();
        x.undo();
        due.is("status(-1)", x.status(-1), -1);
        due.is("status(3)", x.status(3), -1);
        for (int i = 0; i < 9; i++) {
            x.string(0, 1);
        }
        due.is("BAD", x.status(0), 3);
        due.is("NO", x.status(1), 2);
        due.is("FULL", x.status(2), 4);
        due.is("asking is not refused", x.status(0), 3);
    }

    private static void count() {
        StringToll x = busy();
        x.type('x');
        x.type('y');
        int[] counts = {2, 2, 1, 1, 3, 2};
        for (int what = 0; what < counts.length; what++) {
            due.is("count(" + what + ")", x.count(what), counts[what]);
        }
        due.is("count(-1)", x.count(-1), StringToll.BAD);
        due.is("count(6)", x.count(6), StringToll.BAD);
        due.is("status(0)", x.status(0), 2);
    }

    private static void digest() {
        due.is("new", new StringToll().digest(), digestOf(
            0, 0, 0, 0, 0, 0,
            20, 0, 0, 100, 0, 0, 0,
            0, 1));
        StringToll x = busy();
        x.mark(0, 7, 8, 9);
        x.type('t');
        x.scissors(5);
        // 30 shows 30: steep 18, bird 18; a kite of 11 shows 16: 9 and 9; they bring 21 and 2, halved 6 and 0
        due.is("busy", x.digest(), digestOf(
            2, 2, 1, 2, 3, 1,
            10, 1, 4, 446, 23, 2, 7,
            0, 30, 3, 11,
            9, 0, 12, 3,
            1, 2, 3, 7,
            1, 20, 2, 12, 0, 7, 8, 9,
            29, 2));
        long before = x.digest();
        due.is("it changes nothing", x.digest(), before);
    }

    private static long digestOf(long... values) {
        long h = 1579;
        for (long v : values) {
            h = 31 * h + v;
        }
        return h;
    }

    private static void constants() {
        due.is("NONE", StringToll.NONE, -1);
        due.is("BAD", StringToll.BAD, -2);
        due.is("NO", StringToll.NO, -3);
        due.is("FULL", StringToll.FULL, -4);
    }
}
