/** The boundaries that "Promise 1" to "Promise 35" name, a test for each promise. */
public final class PromiseEdgeTest {
    private static final Due due = new Due("PromiseEdgeTest");

    public static void main(String[] args) {
        promise1();
        promise2();
        promise3();
        promise4();
        promise5();
        promise6();
        promise7();
        promise8();
        promise9();
        promise10();
        promise11();
        promise12();
        promise13();
        promise14();
        promise15();
        promise16();
        promise17();
        promise18();
        promise19();
        promise20();
        promise21();
        promise22();
        promise23();
        promise24();
        promise25();
        promise26();
        promise27();
        promise28();
        promise29();
        promise30();
        promise31();
        promise32();
        promise33();
        promise34();
        promise35();
        due.end();
    }

    /** As BAD, of an object that has something of all. */
    private static void bad(String what, Sight.Call call) {
        Sight.refused(due, what, States::some, call, StringToll.BAD, Sight.OF_BAD);
    }

    private static void badWithoutStrings(String what, Sight.Call call) {
        Sight.refused(due, what + ", no STRING", StringToll::new, call, StringToll.BAD, Sight.OF_BAD);
    }

    private static void full(String what, Sight.Call call) {
        Sight.refused(due, what, States::full, call, StringToll.FULL, Sight.OF_FULL);
    }

    private static void nows(String what, StringToll x, int... now) {
        for (int k = 0; k < now.length; k++) {
            due.is(what + ": now(" + k + ")", x.now(k), now[k]);
        }
    }

    private static void counts(String what, StringToll x, int... counts) {
        for (int k = 0; k < counts.length; k++) {
            due.is(what + ": count(" + k + ")", x.count(k), counts[k]);
        }
    }

    private static void promise1() {
        due.says("As told; no STRINGS.");
        StringToll x = new StringToll();
        nows("new", x, 20, 0, 0, 100, 0, 0, 0);
        counts("new", x, 0, 0, 0, 0, 0, 0);
        due.is("STRING 0", x.of(0, 0), StringToll.BAD);
        due.is("undo", x.undo(), StringToll.NO);
        due.is("image 0", x.from(0), StringToll.NO);
        due.is("image 1", x.from(1), StringToll.NO);
        due.is("an empty TEXT", x.read(), -10);
        due.is("two are apart", new StringToll().status(1), 0);
    }

    private static void promise2() {
        due.says("THE LINE, PURSE n (0 .. 9999), all else as at first (but for IMAGES, THE TEXT, THE FRACTION, STATUS): "
            + "how many STRINGS there were. BAD.");
        StringToll x = new StringToll();
        for (int strings = 0; strings <= 5; strings++) {
            for (int i = 0; i < strings; i++) {
                x.string(0, 1);
            }
            due.is("there were", x.province(1, 0), strings);
            due.is("there are", x.count(0), 0);
        }
        StringToll y = States.full();
        due.is("of a full one", y.province(60, 9999), 5);
        nows("begun", y, 60, 0, 0, 9999, 0, 0, 0);
        counts("begun", y, 0, 0, 0, 0, 0, 150);
        due.is("THE FRACTION", y.part(1), 10);
        due.is("undo", y.undo(), StringToll.NO);
        due.is("image 1", y.from(1), 1);
        counts("image 1", y, 5, 6, 6, 6, 8, 150);
        bad("province(0, 0)", z -> z.province(0, 0));
        bad("province(61, 0)", z -> z.province(61, 0));
        bad("province(1, -1)", z -> z.province(1, -1));
        bad("province(1, 10000)", z -> z.province(1, 10000));
    }

    private static void promise3() {
        due.says("The KIND of a HOUSE (0 below, 1 above): what it was. BAD.");
        StringToll x = new StringToll();
        for (int w = 0; w <= 1; w++) {
            for (int kind = 0; kind <= 5; kind++) {
                due.is("what it was", x.house(w, kind), Math.max(kind - 1, 0));
                due.is("what it is", x.now(1 + w), kind);
                due.is("the other one", x.now(2 - w), w == 0 ? 0 : 5);
            }
        }
        bad("house(-1, 0)", z -> z.house(-1, 0));
        bad("house(2, 0)", z -> z.house(2, 0));
        bad("house(0, -1)", z -> z.house(0, -1));
        bad("house(1, 6)", z -> z.house(1, 6));
    }

    private static void promise4() {
        due.says("A STRING: its number. BAD; FULL: 5.");
        StringToll x = new StringToll();
        for (int i = 0; i < 5; i++) {
            due.is("its number", x.string(5 - i, 60 - i), i);
            due.is("its KIND", x.of(i, 0), 5 - i);
            due.is("its LENGTH", x.of(i, 1), 60 - i);
        }
        full("a sixth", z -> z.string(0, 1));
        full("a sixth", z -> z.string(5, 60));
        bad("string(-1, 1)", z -> z.string(-1, 1));
        bad("string(6, 1)", z -> z.string(6, 1));
        bad("string(0, 0)", z -> z.string(0, 0));
        bad("string(0, 61)", z -> z.string(0, 61));
        x.province(20, 100);
        due.is("the first again", x.string(0, 1), 0);
    }

    private static void promise5() {
        due.says("A byte (0 .. 127) comes behind THE TEXT: how many it has. BAD; FULL.");
        StringToll x = new StringToll();
        for (int k = 1; k <= 150; k++) {
            due.is("how many", x.type(k % 2 == 0 ? 0 : 127), k);
        }
        due.is("a 151st", x.type(0), StringToll.FULL);
        full("a byte more", z -> z.type(0));
        full("a byte more", z -> z.type(127));
        bad("type(-1)", z -> z.type(-1));
        bad("type(128)", z -> z.type(128));
        x.clear();
        due.is("the first again", x.type(0), 1);
    }

    private static void promise6() {
        due.says("THE TEXT is empty: how many it had.");
        StringToll x = new StringToll();
        due.is("none", x.clear(), 0);
        x.type('a');
        due.is("one", x.clear(), 1);
        due.is("none", x.clear(), 0);
        StringToll y = States.full();
        due.is("150", y.clear(), 150);
        due.is("none", y.count(5), 0);
        due.is("it is empty", y.read(), -10);
        counts("all else stays", y, 5, 6, 6, 6, 8, 0);
    }

    private static void promise7() {
        due.says("THE PROVINCE is read: how many ITEMS. -10 less the FAULT: all stays.");
        StringToll x = States.some();
        due.is("one", Due.read(x, "province 7;"), 1);
        due.is("two", Due.read(x, "province 7;wait 1;"), 2);
        due.is("24", Due.read(x, "province7;" + "wait1;".repeat(23)), 24);
        String[] faults = {"", ";", "province 0;", " ".repeat(150)};
        int[] places = {0, 0, 9, 150};
        for (int k = 0; k < faults.length; k++) {
            String text = faults[k];
            Sight.leavesAll(due, "read of '" + text + "'", () -> {
                StringToll y = States.full();
                Due.type(y, text);
                return y;
            }, StringToll::read, -10 - places[k]);
        }
    }

    private static void promise8() {
        due.says("SENDING: what it BRINGS. BAD; NO: PURSE does not hold it, HOUR 9999.");
        due.is("hail", States.of(20, 100, 0, 19).sends(0), 0);
        due.is("sweets", States.of(20, 100, 0, 20).sends(0), 1);
        due.is("the most", States.of(1, 9999, 5, 60).sends(0), 60);
        badWithoutStrings("sends(0)", x -> x.sends(0));
        bad("sends(-1)", x -> x.sends(-1));
        bad("sends(3)", x -> x.sends(3));
        due.is("sends(2)", States.some().sends(2), 24);
        Sight.refused(due, "PURSE", () -> States.of(1, 59, 0, 60), x -> x.sends(0), -3, Sight.OF_NO);
        due.is("PURSE holds it", States.of(1, 60, 0, 60).sends(0), 60);
        StringToll late = States.of(20, 0, 1, 60);
        States.toHour(late, 9990);
        // silk by day can not be paid, at 9999 nothing is sent
        due.is("PURSE", late.sends(0), StringToll.NO);
        States.toHour(late, 9999);
        due.is("both", late.sends(0), StringToll.NO);
        due.is("are refused once", late.status(1), 2);
        Sight.refused(due, "HOUR 9999", States::full, x -> x.sends(0), -3, Sight.OF_NO);
        StringToll last = States.of(20, 100, 0, 20);
        States.toHour(last, 9998);
        due.is("HOUR 9998", last.sends(0), 1);
        due.is("HOUR 9999", last.sends(0), StringToll.NO);
    }

    private static void promise9() {
        due.says("WAITING, n HOURS (1 .. 99; together one that may be undone; 9999 stays): the HOUR. BAD.");
        StringToll x = new StringToll();
        due.is("waits(1)", x.waits(1), 1);
        due.is("waits(99)", x.waits(99), 100);
        due.is("one each", x.count(4), 2);
        due.is("together", x.undo(), 1);
        States.toHour(x, 9900);
        due.is("just to 9999", x.waits(99), 9999);
        x.undo();
        x.waits(1);
        due.is("beyond it by one", x.waits(99), 9999);
        due.is("9999 stays", x.waits(99), 9999);
        due.is("one that may be undone", x.undo(), 9999);
        due.is("and one", x.undo(), 9901);
        bad("waits(0)", z -> z.waits(0));
        bad("waits(100)", z -> z.waits(100));
        bad("waits(-1)", z -> z.waits(-1));
        Sight.refused(due, "waits(0) at 9999", States::full, z -> z.waits(0), -2, Sight.OF_BAD);
    }

    private static void promise10() {
        due.says("UNDO: the HOUR then. NO: none may be.");
        Sight.refused(due, "undo of a new one", StringToll::new, StringToll::undo, -3, Sight.OF_NO);
        StringToll x = new StringToll();
        x.waits(7);
        x.waits(8);
        due.is("the HOUR", x.undo(), 7);
        due.is("the HOUR", x.undo(), 0);
        due.is("none", x.undo(), StringToll.NO);
        due.is("none still", x.undo(), StringToll.NO);
        due.is("both are refused", x.status(1), 2);
        Sight.refused(due, "undo behind the eighth", () -> {
            StringToll y = States.full();
            for (int k = 0; k < 8; k++) {
                y.undo();
            }
            return y;
        }, StringToll::undo, -3, Sight.OF_NO);
    }

    private static void promise11() {
        due.says("Of a STRING: KIND (0), LENGTH (1). BAD.");
        StringToll x = States.of(20, 0, 0, 1, 5, 60);
        due.is("KIND 0", x.of(0, 0), 0);
        due.is("LENGTH 1", x.of(0, 1), 1);
        due.is("KIND 5", x.of(1, 0), 5);
        due.is("LENGTH 60", x.of(1, 1), 60);
        badWithoutStrings("of(0, 0)", z -> z.of(0, 0));
        bad("of(-1, 0)", z -> z.of(-1, 0));
        bad("of(3, 0)", z -> z.of(3, 0));
        bad("of(0, -1)", z -> z.of(0, -1));
        bad("of(0, 2)", z -> z.of(0, 2));
    }

    private static void promise12() {
        due.says("THE LINE (0), KIND of the HOUSE below (1), above (2), PURSE (3), HAUL (4), STAMPS (5), the HOUR (6). BAD.");
        StringToll x = States.of(7, 500, 0, 17);
        x.house(0, 3);
        x.house(1, 4);
        x.sends(0);
        // 17 is charged 12 by a greedy house, 10 by a bird
        nows("each", x, 7, 3, 4, 478, 11, 1, 1);
        bad("now(-1)", z -> z.now(-1));
        bad("now(7)", z -> z.now(7));
    }

    private static void promise13() {
        due.says("SHOWS (0), COST (1), BRINGS (2). BAD.");
        StringToll x = States.of(20, 0, 3, 30);
        due.is("SHOWS", x.asks(0, 0, 0), 35);
        due.is("COST", x.asks(0, 47, 1), 36);
        due.is("BRINGS", x.asks(0, 47, 2), 11);
        badWithoutStrings("asks(0, 0, 0)", z -> z.asks(0, 0, 0));
        bad("asks(-1, 0, 0)", z -> z.asks(-1, 0, 0));
        bad("asks(3, 0, 0)", z -> z.asks(3, 0, 0));
        bad("asks(0, -1, 0)", z -> z.asks(0, -1, 0));
        bad("asks(0, 48, 0)", z -> z.asks(0, 48, 0));
        bad("asks(0, 0, -1)", z -> z.asks(0, 0, -1));
        bad("asks(0, 0, 3)", z -> z.asks(0, 0, 3));
    }

    private static void promise14() {
        due.says("CHEAPEST: in how many HOURS (0), how much (1). BAD.");
        StringToll x = States.of(20, 0, 0, 31, 1, 31);
        x.waits(17);
        due.is("in how many HOURS, plain", x.cheapest(0, 0), 0);
        due.is("how much, plain", x.cheapest(0, 1), 32);
        due.is("in how many HOURS, silk", x.cheapest(1, 0), 1);
        due.is("how much, silk", x.cheapest(1, 1), 0);
        badWithoutStrings("cheapest(0, 0)", z -> z.cheapest(0, 0));
        bad("cheapest(-1, 0)", z -> z.cheapest(-1, 0));
        bad("cheapest(3, 0)", z -> z.cheapest(3, 0));
        bad("cheapest(0, -1)", z -> z.cheapest(0, -1));
        bad("cheapest(0, 2)", z -> z.cheapest(0, 2));
    }

    private static void promise15() {
        due.says("CUT: how much (0), the least a (1). BAD.");
        StringToll x = new StringToll();
        due.is("how much", x.cuts(0, 4, 0), 4);
        due.is("the least a", x.cuts(0, 4, 1), 2);
        bad("cuts(-1, 2, 0)", z -> z.cuts(-1, 2, 0));
        bad("cuts(6, 2, 0)", z -> z.cuts(6, 2, 0));
        bad("cuts(0, 1, 0)", z -> z.cuts(0, 1, 0));
        bad("cuts(0, 61, 0)", z -> z.cuts(0, 61, 0));
        bad("cuts(0, 2, -1)", z -> z.cuts(0, 2, -1));
        bad("cuts(0, 2, 2)", z -> z.cuts(0, 2, 2));
    }

    private static void promise16() {
        due.says("ROW: by how much more (i = -2), how many (-1), the i-th one. -5: not so many. BAD: -10.");
        StringToll x = States.of(1, 300, 0, 60, 0, 60, 0, 60, 0, 60, 0, 60);
        due.is("by how much more", x.row(-2), 300);
        due.is("how many", x.row(-1), 5);
        due.is("the first", x.row(0), 0);
        due.is("the fifth", x.row(4), 4);
        due.is("a sixth", x.row(5), -5);
        due.is("one far away", x.row(Integer.MAX_VALUE), -5);
        StringToll none = new StringToll();
        due.is("by how much more", none.row(-2), 0);
        due.is("how many", none.row(-1), 0);
        Sight.leavesAll(due, "the first of none", StringToll::new, z -> z.row(0), -5);
        Sight.refused(due, "row(-3)", States::some, z -> z.row(-3), -10, Sight.OF_BAD);
        Sight.refused(due, "row(min)", States::some, z -> z.row(Integer.MIN_VALUE), -10, Sight.OF_BAD);
    }

    private static void promise17() {
        due.says("CAME: how many there are. BAD; FULL: 6.");
        StringToll x = new StringToll();
        for (int k = 1; k <= 6; k++) {
            due.is("how many", x.came(k, 60 - k), k);
        }
        full("a seventh", z -> z.came(1, 0));
        full("a seventh", z -> z.came(60, 60));
        bad("came(0, 0)", z -> z.came(0, 0));
        bad("came(61, 0)", z -> z.came(61, 0));
        bad("came(1, -1)", z -> z.came(1, -1));
        bad("came(1, 61)", z -> z.came(1, 61));
    }

    private static void promise18() {
        due.says("LINES: how many (0), the least (1), the greatest (2; NONE). BAD.");
        StringToll x = new StringToll();
        x.came(10, 0);
        due.is("how many", x.lines(0), 50);
        due.is("the least", x.lines(1), 11);
        due.is("the greatest", x.lines(2), 60);
        x.came(10, 1);
        due.is("how many", x.lines(0), 0);
        due.is("the least", x.lines(1), StringToll.NONE);
        due.is("the greatest", x.lines(2), StringToll.NONE);
        bad("lines(-1)", z -> z.lines(-1));
        bad("lines(3)", z -> z.lines(3));
    }

    private static void promise19() {
        due.says("TRY. NONE.");
        StringToll x = new StringToll();
        due.is("all", x.tries(), 59);
        x.came(59, 0);
        due.is("one", x.tries(), 1);
        x.came(60, 0);
        due.is("none", x.tries(), StringToll.NONE);
        due.is("nothing is refused", x.status(0) + x.status(1) + x.status(2), 0);
    }

    private static void promise20() {
        due.says("A NOTE: how many there are. BAD; FULL: 6.");
        StringToll x = States.of(20, 0, 0, 1);
        for (int k = 1; k <= 6; k++) {
            due.is("how many", x.note(0, k, k, k), k);
        }
        full("a seventh", z -> z.note(0, 1, 0, 0));
        full("a seventh", z -> z.note(4, 60, 23, 200));
        badWithoutStrings("note(0, 1, 0, 0)", z -> z.note(0, 1, 0, 0));
        bad("note(-1, 1, 0, 0)", z -> z.note(-1, 1, 0, 0));
        bad("note(3, 1, 0, 0)", z -> z.note(3, 1, 0, 0));
        bad("note(0, 0, 0, 0)", z -> z.note(0, 0, 0, 0));
        bad("note(0, 61, 0, 0)", z -> z.note(0, 61, 0, 0));
        bad("note(0, 1, -1, 0)", z -> z.note(0, 1, -1, 0));
        bad("note(0, 1, 24, 0)", z -> z.note(0, 1, 24, 0));
        bad("note(0, 1, 0, -1)", z -> z.note(0, 1, 0, -1));
        bad("note(0, 1, 0, 201)", z -> z.note(0, 1, 0, 201));
    }

    private static void promise21() {
        due.says("A MARK: how many there are. BAD; FULL: 6.");
        StringToll x = new StringToll();
        for (int k = 1; k <= 6; k++) {
            due.is("how many", x.mark(1, k, k, k), k);
        }
        full("a seventh", z -> z.mark(0, 0, 0, 0));
        full("a seventh", z -> z.mark(1, 99, 99, 200));
        bad("mark(-1, 0, 0, 0)", z -> z.mark(-1, 0, 0, 0));
        bad("mark(2, 0, 0, 0)", z -> z.mark(2, 0, 0, 0));
        bad("mark(0, -1, 0, 0)", z -> z.mark(0, -1, 0, 0));
        bad("mark(0, 100, 0, 0)", z -> z.mark(0, 100, 0, 0));
        bad("mark(0, 0, -1, 0)", z -> z.mark(0, 0, -1, 0));
        bad("mark(0, 0, 100, 0)", z -> z.mark(0, 0, 100, 0));
        bad("mark(0, 0, 0, -1)", z -> z.mark(0, 0, 0, -1));
        bad("mark(0, 0, 0, 201)", z -> z.mark(0, 0, 0, 201));
    }

    private static void promise22() {
        due.says("No CAME ones (0), NOTES (1), MARKS (2): how many there were. BAD.");
        for (int what = 0; what <= 2; what++) {
            StringToll x = States.full();
            due.is("forget(" + what + ")", x.forget(what), 6);
            counts("forget(" + what + ")", x, 5, what == 0 ? 0 : 6, what == 1 ? 0 : 6, what == 2 ? 0 : 6, 8, 150);
            due.is("forget(" + what + ") again", x.forget(what), 0);
            due.is("forget(" + what + ") of a new one", new StringToll().forget(what), 0);
        }
        StringToll x = States.full();
        x.forget(0);
        x.forget(1);
        x.forget(2);
        due.is("the first again", x.came(1, 1), 1);
        due.is("the first again", x.note(4, 1, 1, 1), 1);
        due.is("the first again", x.mark(1, 1, 1, 1), 1);
        bad("forget(-1)", z -> z.forget(-1));
        bad("forget(3)", z -> z.forget(3));
    }

    private static void promise23() {
        due.says("IS, as bits. BAD.");
        StringToll x = States.of(20, 0, 0, 9);
        due.is("all", x.is(0), 63);
        x.note(0, 60, 0, 99);
        due.is("the greatest bit", x.is(0), 32);
        x.note(0, 60, 0, 60);
        due.is("none", x.is(0), 0);
        x.forget(1);
        x.note(0, 60, 0, 60);
        due.is("the least bit", x.is(0), 1);
        badWithoutStrings("is(0)", z -> z.is(0));
        bad("is(-1)", z -> z.is(-1));
        bad("is(3)", z -> z.is(3));
    }

    private static void promise24() {
        due.says("LOOK. NONE. BAD.");
        StringToll x = States.of(20, 0, 0, 9);
        x.note(0, 60, 0, 0);
        due.is("by day", x.look(0), 6);
        x.note(0, 60, 0, 60);
        due.is("none", x.look(0), StringToll.NONE);
        due.is("nothing is refused", x.status(0), 0);
        badWithoutStrings("look(0)", z -> z.look(0));
        bad("look(-1)", z -> z.look(-1));
        bad("look(3)", z -> z.look(3));
    }

    private static void promise25() {
        due.says("WHAT, as bits. BAD.");
        StringToll x = new StringToll();
        due.is("all", x.kinds(0), 63);
        x.mark(0, 99, 0, 55);
        due.is("the greatest bit", x.kinds(0), 32);
        x.mark(0, 99, 0, 50);
        due.is("none", x.kinds(0), 0);
        x.forget(2);
        x.mark(1, 99, 0, 50);
        due.is("the least bit", x.kinds(1), 1);
        bad("kinds(-1)", z -> z.kinds(-1));
        bad("kinds(2)", z -> z.kinds(2));
    }

    private static void promise26() {
        due.says("ASK. NONE. BAD.");
        StringToll x = new StringToll();
        due.is("all", x.ask(0), 45);
        x.mark(0, 99, 0, 50);
        due.is("one", x.ask(0), 0);
        x.mark(0, 99, 0, 51);
        due.is("none", x.ask(0), StringToll.NONE);
        due.is("the other", x.ask(1), 45);
        due.is("nothing is refused", x.status(0), 0);
        bad("ask(-1)", z -> z.ask(-1));
        bad("ask(2)", z -> z.ask(2));
    }

    private static void promise27() {
        due.says("ENDS: how many (k = NONE), the k-th. -5: not so many. BAD: -10.");
        StringToll x = new StringToll();
        due.is("how many", x.ends(StringToll.NONE), 36);
        due.is("the first", x.ends(0), 0);
        due.is("the last", x.ends(35), 55);
        due.is("not so many", x.ends(36), -5);
        StringToll one = States.of(1, 0, 0, 60);
        due.is("how many", one.ends(StringToll.NONE), 1);
        due.is("the first", one.ends(0), 11);
        due.is("not so many", one.ends(1), -5);
        Sight.leavesAll(due, "not so many", States::full, z -> z.ends(36), -5);
        Sight.refused(due, "ends(-2)", States::some, z -> z.ends(-2), -10, Sight.OF_BAD);
        Sight.refused(due, "ends(min)", States::some, z -> z.ends(Integer.MIN_VALUE), -10, Sight.OF_BAD);
    }

    private static void promise28() {
        due.says("SCISSORS are THE FRACTION: 1. BAD.");
        StringToll x = States.of(20, 0, 0, 40);
        due.is("by 0", x.scissors(0), 1);
        due.is("above", x.part(0), 21);
        due.is("by 10", x.scissors(10), 1);
        due.is("above", x.part(0), 1);
        due.is("below", x.part(1), 1);
        bad("scissors(-1)", z -> z.scissors(-1));
        bad("scissors(11)", z -> z.scissors(11));
    }

    private static void promise29() {
        due.says("NIGHTS. BAD.");
        StringToll x = States.of(1, 9999, 0, 9);
        due.is("none", x.nights(0, 0), 0);
        due.is("one", x.nights(0, 1), 9);
        bad("nights(-1, 0)", z -> z.nights(-1, 0));
        bad("nights(1000000, 0)", z -> z.nights(1000000, 0));
        bad("nights(0, -1)", z -> z.nights(0, -1));
        bad("nights(0, 61)", z -> z.nights(0, 61));
    }

    private static void promise30() {
        due.says("THE FRACTION: above (0), below (1). BAD.");
        StringToll x = States.of(20, 0, 0, 41);
        x.scissors(3);
        due.is("above", x.part(0), 157);
        due.is("below", x.part(1), 10);
        bad("part(-1)", z -> z.part(-1));
        bad("part(2)", z -> z.part(2));
    }

    private static void promise31() {
        due.says("An IMAGE is kept: 1. BAD.");
        StringToll x = new StringToll();
        due.is("image(0)", x.image(0), 1);
        due.is("image(1)", x.image(1), 1);
        due.is("image(0) again", x.image(0), 1);
        bad("image(-1)", z -> z.image(-1));
        bad("image(2)", z -> z.image(2));
    }

    private static void promise32() {
        due.says("It goes on from an IMAGE: 1. BAD; NO: none was kept.");
        Sight.refused(due, "from(0)", StringToll::new, x -> x.from(0), -3, Sight.OF_NO);
        Sight.refused(due, "from(1)", States::some, x -> x.from(1), -3, Sight.OF_NO);
        due.is("from(0)", States.some().from(0), 1);
        due.is("from(1)", States.full().from(1), 1);
        bad("from(-1)", x -> x.from(-1));
        bad("from(2)", x -> x.from(2));
    }

    private static void promise33() {
        due.says("STATUS: BAD (0), NO (1), FULL (2). -1: another what (counts as BAD).");
        StringToll x = new StringToll();
        due.is("status(-1)", x.status(-1), -1);
        due.is("counts as BAD", x.status(0), 1);
        due.is("status(3)", x.status(3), -1);
        due.is("counts as BAD", x.status(0), 2);
        due.is("not as NO", x.status(1), 0);
        due.is("not as FULL", x.status(2), 0);
        Sight.refused(due, "status(-1)", States::full, z -> z.status(-1), -1, Sight.OF_BAD);
        Sight.refused(due, "status(3)", States::full, z -> z.status(3), -1, Sight.OF_BAD);
    }

    private static void promise34() {
        due.says("How many: 0 STRINGS, 1 CAME, 2 NOTES, 3 MARKS, 4 that may be undone, 5 bytes of THE TEXT. BAD.");
        counts("new", new StringToll(), 0, 0, 0, 0, 0, 0);
        counts("some", States.some(), 3, 1, 1, 1, 3, States.TEXT.length());
        counts("full", States.full(), 5, 6, 6, 6, 8, 150);
        bad("count(-1)", z -> z.count(-1));
        bad("count(6)", z -> z.count(6));
    }

    private static long digestOf(long... values) {
        long h = 1579;
        for (long v : values) {
            h = 31 * h + v;
        }
        return h;
    }

    private static void promise35() {
        due.says("h = 1579; then h = 31 h + v for each v: count(0) to count(5); now(0) to now(6); of STRINGS KIND, LENGTH; "
            + "of CAME l, x; of NOTES i, l, h, x; of MARKS w, s, d, x; THE FRACTION.");
        due.is("new", new StringToll().digest(), digestOf(0, 0, 0, 0, 0, 0, 20, 0, 0, 100, 0, 0, 0, 0, 1));
        StringToll x = new StringToll();
        x.province(1, 9999);
        for (int i = 0; i < 5; i++) {
            x.string(5, 60);
        }
        for (int k = 0; k < 6; k++) {
            x.came(60, 60);
            x.note(4, 60, 23, 200);
            x.mark(1, 99, 99, 200);
        }
        x.scissors(1);
        long[] all = new long[6 + 7 + 10 + 12 + 24 + 24 + 2];
        int at = put(all, 0, 1, 5, 6, 6, 6, 0, 0);
        at = put(all, at, 1, 1, 0, 0, 9999, 0, 0, 0);
        at = put(all, at, 5, 5, 60);
        at = put(all, at, 6, 60, 60);
        at = put(all, at, 6, 4, 60, 23, 200);
        at = put(all, at, 6, 1, 99, 99, 200);
        // five of 60 bring 300, halves of them 150: 285 in the mean
        put(all, at, 1, 285, 1);
        due.is("all that there may be, with a wrap-around", x.digest(), digestOf(all));
        x.status(9);
        due.is("STATUS is not in it", x.digest(), digestOf(all));
        x.image(0);
        due.is("IMAGES are not in it", x.digest(), digestOf(all));
    }

    private static int put(long[] row, int from, int times, long... values) {
        int at = from;
        for (int k = 0; k < times; k++) {
            for (long v : values) {
                row[at++] = v;
            }
        }
        return at;
    }
}
