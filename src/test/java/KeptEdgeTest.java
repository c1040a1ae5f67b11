import java.math.BigInteger;

/** The boundaries that "Terms" names for what is kept: what may be undone, IMAGES, STATUS, THE FRACTION, refusals. */
public final class KeptEdgeTest {
    private static final Due due = new Due("KeptEdgeTest");

    public static void main(String[] args) {
        fullIsFull();
        undoneAtMost();
        undoneAsAhead();
        undoneAnew();
        undoneBehind();
        undoneBehindRefused();
        imagesKeepAll();
        imagesLeave();
        imagesAreTwo();
        statusCounts();
        statusCountsNot();
        fractionAtFirst();
        lowestTerms();
        theFirstOf();
        due.end();
    }

    private static void fullIsFull() {
        StringToll x = States.full();
        int[] counts = {5, 6, 6, 6, 8, 150};
        for (int what = 0; what < counts.length; what++) {
            due.is("a full one: count(" + what + ")", x.count(what), counts[what]);
        }
        due.is("a full one: the HOUR", x.now(6), 9999);
        due.is("nothing was refused", x.status(0) + x.status(1) + x.status(2), 0);
    }

    private static void undoneAtMost() {
        due.says("UNDO: PURSE, HAUL, STAMPS, the HOUR as ahead of the last SENDING, WAITING (8 at most;");
        for (int n = 0; n <= 10; n++) {
            StringToll x = new StringToll();
            for (int k = 1; k <= n; k++) {
                x.waits(k);
            }
            int may = Math.min(n, 8);
            due.is("behind " + n, x.count(4), may);
            int hour = n * (n + 1) / 2;
            for (int k = 0; k < may; k++) {
                hour -= n - k;
                due.is("behind " + n + ": undo " + k, x.undo(), hour);
                due.is("so many are left", x.count(4), may - k - 1);
            }
            due.is("behind " + n + ": no more", x.undo(), StringToll.NO);
            due.is("the HOUR stays", x.now(6), hour);
        }
        StringToll x = States.of(20, 100, 2, 20);
        for (int k = 0; k < 9; k++) {
            x.sends(0);
        }
        for (int k = 8; k >= 1; k--) {
            due.is("a sending undone", x.undo(), k);
        }
        due.is("the ninth is not", x.undo(), StringToll.NO);
        due.is("PURSE of one sending", x.now(3), 90);
        due.is("HAUL of one sending", x.now(4), 1);
        due.is("STAMPS of one sending", x.now(5), 1);
    }

    private static void undoneAsAhead() {
        due.says("UNDO: PURSE, HAUL, STAMPS, the HOUR as ahead of the last SENDING, WAITING (8 at most;");
        int[][] sent = {{0, 1}, {0, 30}, {1, 30}, {0, 19}};
        for (int[] string : sent) {
            StringToll x = States.of(20, 100, 0, 40, string[0], string[1]);
            x.sends(0);
            x.waits(2);
            long before = x.digest();
            x.sends(1);
            due.is("the HOUR", x.undo(), 3);
            due.is("all is as ahead of it", x.digest(), before);
            x.waits(99);
            due.is("the HOUR", x.undo(), 3);
            due.is("all is as ahead of it", x.digest(), before);
        }
        StringToll x = new StringToll();
        States.toHour(x, 9990);
        due.is("a wait that 9999 stops", x.waits(99), 9999);
        due.is("is undone", x.undo(), 9990);
        x.waits(9);
        due.is("a wait at 9999", x.waits(1), 9999);
        due.is("is one", x.undo(), 9999);
        due.is("and so is that ahead of it", x.undo(), 9990);
    }

    private static void undoneAnew() {
        StringToll x = States.of(20, 100, 2, 20);
        for (int n = 1; n <= 9; n++) {
            x.waits(n);
        }
        x.undo();
        x.undo();
        due.is("six", x.count(4), 6);
        x.sends(0);
        due.is("seven", x.count(4), 7);
        due.is("back", x.undo(), 28);
        due.is("PURSE", x.now(3), 100);
        due.is("back", x.undo(), 21);
        for (int k = 0; k < 5; k++) {
            x.undo();
        }
        due.is("the first was dropped", x.now(6), 1);
        due.is("no more", x.undo(), StringToll.NO);
    }

    private static StringToll two() {
        StringToll x = States.of(20, 100, 2, 20);
        x.sends(0);
        x.waits(5);
        return x;
    }

    private static void undoneBehind() {
        due.says("behind a LINE, a HOUSE told, a STRING that comes none may be).");
        Sight.Call[] told = {
            x -> x.province(20, 100), x -> x.house(0, 0), x -> x.house(1, 0), x -> x.house(1, 5), x -> x.string(0, 1),
            x -> Due.read(x, "province 20;string 2 20;send 0;wait 5;"),
        };
        for (int k = 0; k < told.length; k++) {
            StringToll x = two();
            told[k].on(x);
            due.is("behind call " + k, x.count(4), 0);
            int hour = x.now(6);
            due.is("behind call " + k, x.undo(), StringToll.NO);
            due.is("the HOUR stays", x.now(6), hour);
            x.waits(1);
            due.is("one anew", x.undo(), hour);
            due.is("no more", x.undo(), StringToll.NO);
        }
        Sight.Call[] others = {
            x -> x.came(1, 1), x -> x.note(0, 1, 1, 1), x -> x.mark(0, 1, 1, 1), x -> x.forget(0), x -> x.forget(1),
            x -> x.forget(2), x -> x.type(1), x -> x.clear(), x -> x.scissors(1), x -> x.image(0), x -> x.image(1),
            x -> Due.read(x, "province 0;"), x -> x.status(3),
        };
        for (int k = 0; k < others.length; k++) {
            StringToll x = two();
            others[k].on(x);
            due.is("behind other " + k, x.count(4), 2);
            due.is("behind other " + k, x.undo(), 1);
            due.is("behind other " + k, x.undo(), 0);
        }
    }

    private static void undoneBehindRefused() {
        due.says("behind a LINE, a HOUSE told, a STRING that comes none may be).");
        Sight.refused(due, "no LINE", KeptEdgeTest::two, x -> x.province(0, 0), -2, Sight.OF_BAD);
        Sight.refused(due, "no HOUSE", KeptEdgeTest::two, x -> x.house(2, 0), -2, Sight.OF_BAD);
        Sight.refused(due, "no STRING", KeptEdgeTest::two, x -> x.string(0, 61), -2, Sight.OF_BAD);
        Sight.refused(due, "a sixth STRING", States::full, x -> x.string(0, 1), -4, Sight.OF_FULL);
        Sight.refused(due, "no SENDING", States::full, x -> x.sends(0), -3, Sight.OF_NO);
        Sight.refused(due, "no WAITING", KeptEdgeTest::two, x -> x.waits(0), -2, Sight.OF_BAD);
    }

    private static StringToll someWithImage() {
        StringToll x = States.some();
        x.image(1);
        return x;
    }

    private static void changeAll(StringToll x) {
        x.undo();
        x.province(60, 1);
        x.house(0, 5);
        x.house(1, 5);
        for (int i = 0; i < 5; i++) {
            x.string(5 - i, 60 - i);
        }
        for (int k = 0; k < 6; k++) {
            x.came(1, 60);
            x.note(4, 60, 23, 200);
            x.mark(0, 99, 99, 200);
        }
        for (int k = 0; k < 9; k++) {
            x.waits(9);
        }
    }

    private static void imagesKeepAll() {
        due.says("IMAGES 0, 1 keep all but them, THE TEXT, THE FRACTION and STATUS; what may be undone they keep;");
        Sight.alike(due, "from an image of some", () -> {
            StringToll x = someWithImage();
            changeAll(x);
            x.from(1);
            return x;
        }, KeptEdgeTest::someWithImage);
        Sight.alike(due, "from an image of a full one", () -> {
            StringToll x = States.full();
            changeAll(x);
            x.from(1);
            return x;
        }, States::full);
        Sight.alike(due, "from an image twice, changed between", () -> {
            StringToll x = someWithImage();
            x.province(60, 1);
            x.from(1);
            changeAll(x);
            x.from(1);
            return x;
        }, KeptEdgeTest::someWithImage);
        Sight.leavesAll(due, "from where it is", KeptEdgeTest::someWithImage, x -> x.from(1), 1);
        Sight.leavesAll(due, "an image over the same", KeptEdgeTest::someWithImage, x -> x.image(1), 1);
        StringToll empty = new StringToll();
        empty.image(0);
        changeAll(empty);
        due.is("from an image of a new one", empty.from(0), 1);
        due.is("is as a new one", empty.digest(), new StringToll().digest());
        due.is("with nothing to undo", empty.undo(), StringToll.NO);
    }

    private static void imagesLeave() {
        due.says("it goes on from one.");
        StringToll x = new StringToll();
        x.image(0);
        x.image(1);
        Due.type(x, "province 7;");
        x.string(0, 41);
        x.scissors(3);
        x.waits(0);
        x.undo();
        x.string(0, 1);
        x.string(0, 1);
        x.string(0, 1);
        x.string(0, 1);
        x.string(0, 1);
        due.is("from(0)", x.from(0), 1);
        due.is("no STRINGS", x.count(0), 0);
        due.is("THE TEXT stays", x.count(5), 11);
        due.is("above stays", x.part(0), 157);
        due.is("below stays", x.part(1), 10);
        due.is("BAD stays", x.status(0), 1);
        due.is("NO stays", x.status(1), 1);
        due.is("FULL stays", x.status(2), 1);
        due.is("the other one stays", x.from(1), 1);
        due.is("and is read as ever", x.read(), 1);
        due.is("THE LINE", x.now(0), 7);
    }

    private static void imagesAreTwo() {
        due.says("IMAGES 0, 1 keep all but them,");
        StringToll x = new StringToll();
        x.province(11, 1);
        x.image(0);
        due.is("the other is not kept", x.from(1), StringToll.NO);
        x.province(22, 2);
        x.image(1);
        x.province(33, 3);
        x.from(0);
        due.is("THE LINE of 0", x.now(0), 11);
        x.from(1);
        due.is("THE LINE of 1", x.now(0), 22);
        x.image(0);
        x.province(44, 4);
        x.from(0);
        due.is("1 in the place of 0", x.now(0), 22);
        due.is("image(-1)", x.image(-1), StringToll.BAD);
        due.is("image(2)", x.image(2), StringToll.BAD);
    }

    private static void statuses(String what, StringToll x, int bad, int no, int full) {
        due.is(what + ": BAD", x.status(0), bad);
        due.is(what + ": NO", x.status(1), no);
        due.is(what + ": FULL", x.status(2), full);
    }

    private static void statusCounts() {
        due.says("STATUS: how many calls were refused as BAD, NO, FULL (each answer told so below is such a one).");
        StringToll x = new StringToll();
        statuses("at first", x, 0, 0, 0);
        x.waits(0);
        statuses("a BAD one", x, 1, 0, 0);
        x.undo();
        statuses("a NO one", x, 1, 1, 0);
        x.from(0);
        statuses("a NO one", x, 1, 2, 0);
        for (int i = 0; i < 7; i++) {
            x.string(0, 60);
        }
        statuses("two FULL ones", x, 1, 2, 2);
        x.row(-3);
        statuses("-10 of row", x, 2, 2, 2);
        x.ends(-2);
        statuses("-10 of ends", x, 3, 2, 2);
        due.is("-1 of status", x.status(3), -1);
        statuses("-1 of status", x, 4, 2, 2);
        due.is("two numbers not as told", x.house(2, 6), StringToll.BAD);
        statuses("are one call", x, 5, 2, 2);
        States.toHour(x, 9999);
        x.sends(0);
        statuses("HOUR 9999", x, 5, 3, 2);
        x.province(1, 1);
        statuses("behind a province", x, 5, 3, 2);
    }

    private static void statusCountsNot() {
        due.says("STATUS: how many calls were refused as BAD, NO, FULL (each answer told so below is such a one).");
        StringToll x = States.of(20, 0, 0, 60);
        due.is("-5 of row", x.row(0), -5);
        due.is("-5 of ends", x.ends(36), -5);
        x.came(60, 0);
        due.is("NONE of lines", x.lines(2), StringToll.NONE);
        due.is("NONE of tries", x.tries(), StringToll.NONE);
        x.note(0, 1, 0, 200);
        due.is("NONE of look", x.look(0), StringToll.NONE);
        x.mark(0, 0, 0, 200);
        due.is("NONE of ask", x.ask(0), StringToll.NONE);
        due.is("a FAULT", x.read(), -10);
        statuses("none of them", x, 0, 0, 0);
    }

    private static void fractionAtFirst() {
        due.says("THE FRACTION is 0 by 1 at first; lowest terms, below above 0.");
        StringToll x = new StringToll();
        due.is("above", x.part(0), 0);
        due.is("below", x.part(1), 1);
        x.string(0, 60);
        due.is("above, until scissors come", x.part(0), 0);
        due.is("below, until scissors come", x.part(1), 1);
    }

    private static void lowestTerms() {
        due.says("THE FRACTION is 0 by 1 at first; lowest terms, below above 0.");
        for (int length = 1; length <= 60; length++) {
            StringToll x = States.of(20, 0, 0, length);
            for (int c = 0; c <= 10; c++) {
                x.scissors(c);
                int whole = length < 20 ? 0 : length - 19;
                int half = length / 2 < 20 ? 0 : length / 2 - 19;
                int tenths = c * half + (10 - c) * whole;
                int common = BigInteger.valueOf(tenths).gcd(BigInteger.TEN).intValue();
                due.is("above of " + length + " by " + c, x.part(0), tenths / common);
                due.is("below of " + length + " by " + c, x.part(1), 10 / common);
            }
        }
    }

    private static void theFirstOf() {
        due.says("Refused, changing nothing but STATUS, the first of: BAD -2 a number is not as told; NO -3 as told; "
            + "FULL -4 (where others are told they count as these).");
        Sight.refused(due, "BAD ahead of NO: sends", States::full, x -> x.sends(5), -2, Sight.OF_BAD);
        Sight.refused(due, "BAD ahead of NO: from", StringToll::new, x -> x.from(2), -2, Sight.OF_BAD);
        Sight.refused(due, "BAD ahead of FULL: string", States::full, x -> x.string(0, 0), -2, Sight.OF_BAD);
        Sight.refused(due, "BAD ahead of FULL: type", States::full, x -> x.type(128), -2, Sight.OF_BAD);
        Sight.refused(due, "BAD ahead of FULL: came", States::full, x -> x.came(61, 0), -2, Sight.OF_BAD);
        Sight.refused(due, "BAD ahead of FULL: note", States::full, x -> x.note(0, 1, 24, 0), -2, Sight.OF_BAD);
        Sight.refused(due, "BAD ahead of FULL: mark", States::full, x -> x.mark(0, 100, 0, 0), -2, Sight.OF_BAD);
        Sight.refused(due, "another, told: row", States::full, x -> x.row(-3), -10, Sight.OF_BAD);
        Sight.refused(due, "another, told: ends", States::full, x -> x.ends(-2), -10, Sight.OF_BAD);
        Sight.refused(due, "another, told: status", States::full, x -> x.status(-1), -1, Sight.OF_BAD);
        due.is("BAD", StringToll.BAD, -2);
        due.is("NO", StringToll.NO, -3);
        due.is("FULL", StringToll.FULL, -4);
        due.is("NONE", StringToll.NONE, -1);
    }
}
