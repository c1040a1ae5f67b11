/** Promises 17 to 26: came, lines, tries, note, mark, forget, is, look, kinds, ask. */
public final class SeenTest {
    private static final Due due = new Due("SeenTest");

    public static void main(String[] args) {
        cameEdges();
        lines();
        tries();
        noteEdges();
        markEdges();
        forgets();
        is();
        look();
        kinds();
        ask();
        due.end();
    }

    private static void cameEdges() {
        StringToll x = new StringToll();
        due.is("came(0, 0)", x.came(0, 0), StringToll.BAD);
        due.is("came(61, 0)", x.came(61, 0), StringToll.BAD);
        due.is("came(1, -1)", x.came(1, -1), StringToll.BAD);
        due.is("came(1, 61)", x.came(1, 61), StringToll.BAD);
        due.is("came(1, 0)", x.came(1, 0), 1);
        due.is("came(60, 60)", x.came(60, 60), 2);
        for (int n = 3; n <= 6; n++) {
            due.is("came " + n, x.came(1, 60), n);
        }
        due.is("a seventh", x.came(1, 1), StringToll.FULL);
        due.is("a seventh that is BAD", x.came(0, 1), StringToll.BAD);
        due.is("count(1)", x.count(1), 6);
        due.is("status(0)", x.status(0), 5);
        due.is("status(2)", x.status(2), 1);
    }

    private static void lines(String what, StringToll x, int many, int least, int greatest) {
        due.is(what + ": how many", x.lines(0), many);
        due.is(what + ": the least", x.lines(1), least);
        due.is(what + ": the greatest", x.lines(2), greatest);
    }

    private static void lines() {
        StringToll x = new StringToll();
        lines("all", x, 60, 1, 60);
        x.came(20, 0);
        lines("beyond 20", x, 40, 21, 60);
        x.came(30, 5);
        lines("26 alone", x, 1, 26, 26);
        x.came(26, 1);
        lines("26 still", x, 1, 26, 26);
        x.came(26, 0);
        lines("none", x, 0, StringToll.NONE, StringToll.NONE);
        due.is("lines(-1)", x.lines(-1), StringToll.BAD);
        due.is("lines(3)", x.lines(3), StringToll.BAD);
        due.is("NONE is not refused", x.status(0) + x.status(1) + x.status(2), 2);
        x.forget(0);
        x.came(30, 31);
        lines("more than any line lets come", x, 0, StringToll.NONE, StringToll.NONE);
        x.forget(0);
        x.came(60, 60);
        lines("1 alone", x, 1, 1, 1);
    }

    private static void tries() {
        StringToll x = new StringToll();
        due.is("all lines", x.tries(), 59);
        x.came(40, 0);
        due.is("beyond 40", x.tries(), 59);
        x.forget(0);
        x.came(58, 0);
        due.is("59 or 60", x.tries(), 59);
        x.came(59, 0);
        due.is("60 alone", x.tries(), 1);
        x.came(60, 0);
        due.is("none", x.tries(), StringToll.NONE);
        due.is("NONE is not refused", x.status(0) + x.status(1) + x.status(2), 0);
    }

    private static void noteEdges() {
        StringToll x = new StringToll();
        due.is("no STRING", x.note(0, 1, 0, 0), StringToll.BAD);
        x.string(0, 5);
        x.string(0, 6);
        due.is("note(-1, 1, 0, 0)", x.note(-1, 1, 0, 0), StringToll.BAD);
        due.is("note(2, 1, 0, 0)", x.note(2, 1, 0, 0), StringToll.BAD);
        due.is("note(0, 0, 0, 0)", x.note(0, 0, 0, 0), StringToll.BAD);
        due.is("note(0, 61, 0, 0)", x.note(0, 61, 0, 0), StringToll.BAD);
        due.is("note(0, 1, -1, 0)", x.note(0, 1, -1, 0), StringToll.BAD);
        due.is("note(0, 1, 24, 0)", x.note(0, 1, 24, 0), StringToll.BAD);
        due.is("note(0, 1, 0, -1)", x.note(0, 1, 0, -1), StringToll.BAD);
        due.is("note(0, 1, 0, 201)", x.note(0, 1, 0, 201), StringToll.BAD);
        due.is("note(1, 60, 23, 200)", x.note(1, 60, 23, 200), 1);
        for (int n = 2; n <= 6; n++) {
            due.is("note " + n, x.note(0, 1, 0, 0), n);
        }
        due.is("a seventh", x.note(0, 1, 0, 0), StringToll.FULL);
        due.is("a seventh that is BAD", x.note(0, 1, 24, 0), StringToll.BAD);
        due.is("count(2)", x.count(2), 6);
        due.is("status(0)", x.status(0), 10);
        due.is("status(2)", x.status(2), 1);
    }

    private static void markEdges() {
        StringToll x = new StringToll();
        due.is("mark(-1, 0, 0, 0)", x.mark(-1, 0, 0, 0), StringToll.BAD);
        due.is("mark(2, 0, 0, 0)", x.mark(2, 0, 0, 0), StringToll.BAD);
        due.is("mark(0, -1, 0, 0)", x.mark(0, -1, 0, 0), StringToll.BAD);
        due.is("mark(0, 100, 0, 0)", x.mark(0, 100, 0, 0), StringToll.BAD);
        due.is("mark(0, 0, -1, 0)", x.mark(0, 0, -1, 0), StringToll.BAD);
        due.is("mark(0, 0, 100, 0)", x.mark(0, 0, 100, 0), StringToll.BAD);
        due.is("mark(0, 0, 0, -1)", x.mark(0, 0, 0, -1), StringToll.BAD);
        due.is("mark(0, 0, 0, 201)", x.mark(0, 0, 0, 201), StringToll.BAD);
        due.is("mark(1, 99, 99, 200)", x.mark(1, 99, 99, 200), 1);
        for (int n = 2; n <= 6; n++) {
            due.is("mark " + n, x.mark(0, 0, 0, 0), n);
        }
        due.is("a seventh", x.mark(0, 0, 0, 0), StringToll.FULL);
        due.is("a seventh that is BAD", x.mark(2, 0, 0, 0), StringToll.BAD);
        due.is("count(3)", x.count(3), 6);
        due.is("status(0)", x.status(0), 9);
        due.is("status(2)", x.status(2), 1);
    }

    private static void forgets() {
        StringToll x = new StringToll();
        x.string(0, 5);
        x.came(1, 1);
        x.came(1, 1);
        x.came(1, 1);
        x.note(0, 1, 1, 1);
        x.note(0, 1, 1, 1);
        x.mark(0, 1, 1, 1);
        due.is("forget(-1)", x.forget(-1), StringToll.BAD);
        due.is("forget(3)", x.forget(3), StringToll.BAD);
        due.is("forget(1)", x.forget(1), 2);
        due.is("CAME stay", x.count(1), 3);
        due.is("NOTES none", x.count(2), 0);
        due.is("MARKS stay", x.count(3), 1);
        due.is("forget(0)", x.forget(0), 3);
        due.is("forget(0) again", x.forget(0), 0);
        due.is("forget(2)", x.forget(2), 1);
        due.is("MARKS none", x.count(3), 0);
        due.is("came anew", x.came(2, 2), 1);
        due.is("status(0)", x.status(0), 2);
    }

    private static void is() {
        StringToll x = new StringToll();
        due.is("no STRING", x.is(0), StringToll.BAD);
        x.string(0, 20);
        x.string(5, 20);
        due.is("is(2)", x.is(2), StringToll.BAD);
        due.is("is(-1)", x.is(-1), StringToll.BAD);
        due.is("no NOTES", x.is(0), 63);
        x.note(0, 1, 12, 1);
        due.is("plain, silk, pond, black", x.is(0), 1 + 2 + 4 + 16);
        due.is("the other one", x.is(1), 63);
        x.note(0, 8, 12, 8);
        due.is("plain, silk, pond", x.is(0), 1 + 2 + 4);
        x.note(0, 11, 5, 11);
        due.is("plain", x.is(0), 1);
        x.note(1, 60, 0, 99);
        due.is("chain", x.is(1), 32);
        x.note(1, 60, 0, 130);
        due.is("none", x.is(1), 0);
        due.is("the first one stays", x.is(0), 1);
    }

    private static void look() {
        StringToll x = new StringToll();
        due.is("no STRING", x.look(0), StringToll.BAD);
        x.string(0, 20);
        due.is("look(-1)", x.look(-1), StringToll.BAD);
        due.is("look(1)", x.look(1), StringToll.BAD);
        // night: 20 0 10 25 0 50, day: 20 20 10 25 10 50
        due.is("no NOTES", x.look(0), 0);
        x.note(0, 9, 2, 0);
        due.is("silk or black are told apart by day", x.look(0), 6);
        x.note(0, 9, 12, 5);
        due.is("black alone", x.look(0), 0);
        x.note(0, 9, 12, 6);
        due.is("none", x.look(0), StringToll.NONE);
        x.forget(1);
        x.note(0, 15, 12, 15);
        due.is("plain or silk are told apart by night", x.look(0), 0);
        x.string(3, 1);
        x.note(1, 9, 2, 0);
        // silk and black of length 1 show 1 by day
        due.is("its length does not tell them apart", x.look(1), 0);
        due.is("NONE is not refused", x.status(0), 3);
    }

    private static void kinds() {
        StringToll x = new StringToll();
        due.is("kinds(-1)", x.kinds(-1), StringToll.BAD);
        due.is("kinds(2)", x.kinds(2), StringToll.BAD);
        due.is("no MARKS", x.kinds(0), 63);
        x.mark(0, 40, 1, 20);
        due.is("plain, lazy", x.kinds(0), 1 + 4);
        due.is("the other house", x.kinds(1), 63);
        x.mark(0, 40, 14, 20);
        due.is("plain", x.kinds(0), 1);
        x.mark(1, 42, 0, 25);
        due.is("steep, bird, stamp", x.kinds(1), 2 + 16 + 32);
        x.mark(1, 45, 98, 30);
        due.is("stamp", x.kinds(1), 32);
        x.mark(1, 45, 98, 31);
        due.is("none", x.kinds(1), 0);
        due.is("status(0)", x.status(0), 2);
    }

    private static void ask() {
        StringToll x = new StringToll();
        due.is("ask(-1)", x.ask(-1), StringToll.BAD);
        due.is("ask(2)", x.ask(2), StringToll.BAD);
        // 45 on day 0: 23 27 0 26 25 30
        due.is("no MARKS", x.ask(0), 45);
        x.mark(0, 40, 1, 20);
        due.is("plain or lazy", x.ask(0), 1);
        x.mark(0, 40, 7, 20);
        due.is("plain alone", x.ask(0), 0);
        x.mark(1, 42, 0, 25);
        // steep and bird are alike up to 42, bird and stamp for 43 and 44
        due.is("steep, bird or stamp", x.ask(1), 45);
        x.mark(1, 1, 0, 1);
        due.is("steep or bird", x.ask(1), 43);
        x.mark(1, 99, 0, 200);
        due.is("none", x.ask(1), StringToll.NONE);
        due.is("NONE is not refused", x.status(0), 2);
    }
}
