/** Promises 8 to 12: sends, waits, undo, of, now. */
public final class HoursTest {
    private static final Due due = new Due("HoursTest");

    public static void main(String[] args) {
        sending();
        sendingRefused();
        stamps();
        waiting();
        theLastHour();
        undoing();
        undoingEight();
        noUndoBehind();
        ofStrings();
        nowEdges();
        due.end();
    }

    private static void sending() {
        StringToll x = new StringToll();
        x.string(0, 20);
        x.string(0, 19);
        x.string(0, 60);
        due.is("as long as the line", x.sends(0), 1);
        due.is("purse", x.now(3), 80);
        due.is("haul", x.now(4), 1);
        due.is("stamps", x.now(5), 1);
        due.is("hour", x.now(6), 1);
        due.is("hail", x.sends(1), 0);
        due.is("purse", x.now(3), 60);
        due.is("sweets", x.sends(2), 41);
        due.is("purse", x.now(3), 0);
        due.is("haul", x.now(4), 42);
        due.is("hour", x.now(6), 3);
        due.is("three may be undone", x.count(4), 3);
    }

    private static void sendingRefused() {
        StringToll x = new StringToll();
        due.is("none there", x.sends(0), StringToll.BAD);
        x.province(20, 39);
        x.string(0, 40);
        due.is("sends(-1)", x.sends(-1), StringToll.BAD);
        due.is("sends(1)", x.sends(1), StringToll.BAD);
        due.is("one too few", x.sends(0), StringToll.NO);
        due.is("hour stays", x.now(6), 0);
        due.is("purse stays", x.now(3), 39);
        due.is("none to undo", x.count(4), 0);
        due.is("status(0)", x.status(0), 3);
        due.is("status(1)", x.status(1), 1);
    }

    private static void stamps() {
        StringToll x = new StringToll();
        x.house(1, 2);
        x.string(0, 4);
        x.string(1, 30);
        x.sends(0);
        due.is("a lazy house above on day 0", x.now(5), 0);
        due.is("it cost below alone", x.now(3), 98);
        x.waits(23);
        x.sends(0);
        due.is("on day 1", x.now(5), 1);
        due.is("both are paid", x.now(3), 94);
        x.house(1, 5);
        x.sends(1);
        due.is("silk by night is charged nothing", x.now(5), 1);
        due.is("nothing", x.now(3), 94);
        x.house(0, 2);
        x.province(20, 100);
        x.house(0, 2);
        x.string(0, 4);
        x.sends(0);
        due.is("a lazy house below takes no stamp away", x.now(5), 1);
    }

    private static void waiting() {
        StringToll x = new StringToll();
        due.is("waits(0)", x.waits(0), StringToll.BAD);
        due.is("waits(100)", x.waits(100), StringToll.BAD);
        due.is("waits(-1)", x.waits(-1), StringToll.BAD);
        due.is("none to undo", x.count(4), 0);
        due.is("waits(1)", x.waits(1), 1);
        due.is("waits(99)", x.waits(99), 100);
        due.is("two to undo", x.count(4), 2);
        due.is("the hour alone", x.now(3) + x.now(4) + x.now(5), 100);
    }

    private static void theLastHour() {
        StringToll x = new StringToll();
        x.string(1, 30);
        for (int i = 1; i <= 100; i++) {
            due.is("wait " + i, x.waits(99), 99 * i);
        }
        due.is("one short", x.waits(98), 9998);
        due.is("the last sending", x.sends(0), 11);
        due.is("9999", x.now(6), 9999);
        due.is("no sending then", x.sends(0), StringToll.NO);
        due.is("no STRING then", x.sends(1), StringToll.BAD);
        due.is("9999 stays", x.waits(99), 9999);
        due.is("9999 stays by one", x.waits(1), 9999);
        due.is("back to", x.undo(), 9999);
        due.is("back to", x.undo(), 9999);
        due.is("back to", x.undo(), 9998);
        due.is("a wait beyond it", x.waits(50), 9999);
        due.is("is one", x.undo(), 9998);
        x.waits(99);
        // hour 9999 is the 15th of day 416, and asking goes beyond it
        due.is("by day", x.asks(0, 0, 0), 30);
        due.is("three more, by night", x.asks(0, 3, 0), 0);
    }

    private static void undoing() {
        StringToll x = new StringToll();
        due.is("none", x.undo(), StringToll.NO);
        x.string(0, 30);
        x.sends(0);
        x.waits(9);
        x.sends(0);
        due.is("undo a sending", x.undo(), 10);
        due.is("purse", x.now(3), 70);
        due.is("haul", x.now(4), 11);
        due.is("stamps", x.now(5), 1);
        due.is("undo a wait", x.undo(), 1);
        due.is("undo the first", x.undo(), 0);
        due.is("purse", x.now(3), 100);
        due.is("haul", x.now(4), 0);
        due.is("stamps", x.now(5), 0);
        due.is("none left", x.undo(), StringToll.NO);
        due.is("two were NO", x.status(1), 2);
    }

    private static void undoingEight() {
        StringToll x = new StringToll();
        for (int n = 1; n <= 10; n++) {
            x.waits(n);
            due.is("may be undone", x.count(4), Math.min(n, 8));
        }
        int hour = 55;
        for (int n = 10; n >= 3; n--) {
            hour -= n;
            due.is("back by " + n, x.undo(), hour);
        }
        due.is("a ninth", x.undo(), StringToll.NO);
        due.is("hour", x.now(6), 3);
    }

    private static void noUndoBehind() {
        StringToll x = new StringToll();
        x.waits(1);
        x.house(0, 0);
        due.is("behind a house", x.undo(), StringToll.NO);
        x.waits(1);
        x.string(0, 1);
        due.is("behind a string", x.undo(), StringToll.NO);
        x.waits(1);
        x.came(1, 1);
        x.note(0, 1, 1, 1);
        x.mark(0, 1, 1, 1);
        x.forget(0);
        x.scissors(1);
        due.is("behind what is seen", x.undo(), 2);
        x.waits(1);
        x.province(20, 100);
        due.is("behind a line", x.undo(), StringToll.NO);
    }

    private static void ofStrings() {
        StringToll x = new StringToll();
        due.is("none there", x.of(0, 0), StringToll.BAD);
        x.string(4, 17);
        x.string(2, 60);
        due.is("of(0, 0)", x.of(0, 0), 4);
        due.is("of(0, 1)", x.of(0, 1), 17);
        due.is("of(1, 0)", x.of(1, 0), 2);
        due.is("of(1, 1)", x.of(1, 1), 60);
        due.is("of(2, 0)", x.of(2, 0), StringToll.BAD);
        due.is("of(-1, 0)", x.of(-1, 0), StringToll.BAD);
        due.is("of(0, 2)", x.of(0, 2), StringToll.BAD);
        due.is("of(0, -1)", x.of(0, -1), StringToll.BAD);
        due.is("of(min, max)", x.of(Integer.MIN_VALUE, Integer.MAX_VALUE), StringToll.BAD);
        due.is("status(0)", x.status(0), 6);
    }

    private static void nowEdges() {
        StringToll x = new StringToll();
        due.is("now(-1)", x.now(-1), StringToll.BAD);
        due.is("now(7)", x.now(7), StringToll.BAD);
        due.is("now(max)", x.now(Integer.MAX_VALUE), StringToll.BAD);
        due.is("status(0)", x.status(0), 3);
    }
}
