/** The boundaries that "Terms" names for what is asked: costs, cuts, rows, lines, kinds, ends, scissors, nights. */
public final class AskedEdgeTest {
    private static final Due due = new Due("AskedEdgeTest");
    private static final int LAZY = 2;

    public static void main(String[] args) {
        nothingIsChanged();
        hoursBeyondTheLast();
        behindHours();
        cheapest();
        cut();
        rowsOfNone();
        rowsOfAll();
        rowsByPurse();
        rowsByHour();
        came();
        lines();
        tries();
        notes();
        is();
        look();
        marks();
        what();
        ask();
        endsPairs();
        endsTwice();
        endsByHour();
        scissors();
        nightsNumbers();
        nightsOfNone();
        nightsPaid();
        due.end();
    }

    private static final Sight.Call[] ASKED = {
        x -> x.of(0, 1), x -> x.now(3), x -> x.asks(0, 47, 0), x -> x.asks(0, 47, 1), x -> x.asks(0, 0, 2),
        x -> x.cheapest(0, 0), x -> x.cheapest(2, 1), x -> x.cuts(5, 60, 0), x -> x.cuts(0, 2, 1),
        x -> x.row(-2), x -> x.row(-1), x -> x.row(0), x -> x.row(5), x -> x.lines(0), x -> x.lines(1), x -> x.lines(2),
        x -> x.tries(), x -> x.is(1), x -> x.look(1), x -> x.kinds(1), x -> x.ask(1), x -> x.ends(-1), x -> x.ends(0),
        x -> x.ends(36), x -> x.nights(999999, 60), x -> x.part(0), x -> x.status(0), x -> x.count(5), x -> x.digest(),
    };

    private static void nothingIsChanged() {
        due.says("(Nothing is changed by these; HOURS go beyond 9999 in them.)");
        for (int k = 0; k < ASKED.length; k++) {
            Sight.leavesAll(due, "call " + k + " of some", States::some, ASKED[k]);
            Sight.leavesAll(due, "call " + k + " of a full one", States::full, ASKED[k]);
            StringToll x = States.full();
            due.is("call " + k + ", again", ASKED[k].on(x), ASKED[k].on(x));
        }
    }

    private static StringToll lateWith(int purse, int... strings) {
        StringToll x = States.of(20, purse, strings);
        States.toHour(x, 9999);
        return x;
    }

    private static void hoursBeyondTheLast() {
        due.says("(Nothing is changed by these; HOURS go beyond 9999 in them.)");
        // 9999 is the hour 15 of its DAY: the night begins 3 hours behind it
        StringToll x = lateWith(6, 0, 1, 0, 1, 0, 1, 1, 60);
        due.is("silk at 10001", x.asks(3, 2, 0), 60);
        due.is("silk at 10002", x.asks(3, 3, 0), 0);
        due.is("silk at 10013", x.asks(3, 14, 0), 0);
        due.is("silk at 10014", x.asks(3, 15, 0), 60);
        due.is("silk at 10046", x.asks(3, 47, 1), 60);
        due.is("the cheapest hour", x.cheapest(3, 0), 3);
        due.is("is free", x.cheapest(3, 1), 0);
        due.is("a row that ends by night", x.row(-2), 41);
        due.is("of four", x.row(-1), 4);
        due.is("silk last", x.row(3), 3);
        // every STRING that is there is silk: none is paid until 10002, each from then on until 10013, again from 10026
        StringToll silk = lateWith(0, 1, 20, 1, 20, 1, 20, 1, 20, 1, 20);
        int sent = 0;
        long seed = 5;
        for (int n = 1; n <= 60; n++) {
            seed = (seed * 1103515245L + 12345L) & 0x7fffffffL;
            int h = (9998 + n) % 24;
            if ((seed >> 16) % 6 != 5 && (h < 6 || h > 17)) {
                sent++;
            }
            due.is("nights(5, " + n + ") from 9999", silk.nights(5, n), sent);
        }
        due.is("the HOUR stays", silk.now(6), 9999);
    }

    private static void behindHours() {
        due.says("SHOWS, COST of a STRING behind m (0 .. 47) HOURS; what it BRINGS.");
        StringToll x = States.of(20, 0, 1, 30);
        x.house(1, LAZY);
        int[][] dues = {
            // m, SHOWS, COST
            {0, 0, 0}, {5, 0, 0}, {6, 30, 15}, {17, 30, 15}, {18, 0, 0}, {23, 0, 0}, {29, 0, 0}, {30, 30, 30},
            {41, 30, 30}, {42, 0, 0}, {47, 0, 0},
        };
        for (int[] d : dues) {
            due.is("SHOWS behind " + d[0], x.asks(0, d[0], 0), d[1]);
            due.is("COST behind " + d[0], x.asks(0, d[0], 1), d[2]);
            due.is("BRINGS behind " + d[0], x.asks(0, d[0], 2), 11);
        }
        States.toHour(x, 6);
        due.is("SHOWS behind 0, now by day", x.asks(0, 0, 0), 30);
        due.is("SHOWS behind 47, at 53", x.asks(0, 47, 0), 0);
        States.toHour(x, 7);
        due.is("SHOWS behind 47, at 54", x.asks(0, 47, 0), 30);
        due.is("behind -1", x.asks(0, -1, 0), StringToll.BAD);
        due.is("behind 48", x.asks(0, 48, 0), StringToll.BAD);
        due.is("BRINGS behind 48", x.asks(0, 48, 2), StringToll.BAD);
    }

    private static void cheapestAt(String what, StringToll x, int hours, int cost) {
        due.is(what + ": in how many HOURS", x.cheapest(0, 0), hours);
        due.is(what + ": how much", x.cheapest(0, 1), cost);
    }

    private static void cheapest() {
        due.says("CHEAPEST: in how many HOURS (0 .. 47) its COST is least; of like ones the first; how much.");
        int[][] dues = {
            // HOUR, in how many HOURS silk costs nothing
            {0, 0}, {5, 0}, {6, 12}, {16, 2}, {17, 1}, {18, 0}, {23, 0},
        };
        for (int[] d : dues) {
            StringToll x = States.of(20, 0, 1, 60);
            States.toHour(x, d[0]);
            cheapestAt("silk at " + d[0], x, d[1], 0);
        }
        cheapestAt("all alike", States.of(20, 0, 0, 60), 0, 60);
        for (int hour = 119; hour <= 122; hour++) {
            StringToll x = States.of(20, 0, 0, 10);
            x.house(0, LAZY);
            States.toHour(x, hour);
            // DAY 7 begins at 168
            boolean isFar = 168 - hour > 47;
            cheapestAt("a lazy house at " + hour, x, isFar ? 0 : 168 - hour, isFar ? 10 : 5);
        }
        StringToll x = States.of(20, 0, 0, 10);
        x.house(0, LAZY);
        cheapestAt("a lazy house now", x, 0, 5);
        States.toHour(x, 23);
        cheapestAt("a lazy house for an hour more", x, 0, 5);
        States.toHour(x, 24);
        cheapestAt("a lazy house no more", x, 0, 10);
    }

    private static void cutOf(StringToll x, int kind, int l, int cost, int a) {
        due.is("cuts(" + kind + ", " + l + ", 0)", x.cuts(kind, l, 0), cost);
        due.is("cuts(" + kind + ", " + l + ", 1)", x.cuts(kind, l, 1), a);
    }

    private static void cut() {
        due.says("CUT: a STRING of a KIND, of LENGTH l (2 .. 60), cut in two (a, and l less a), both sent in this HOUR: "
            + "the least COST of both together; the least a (1 .. l less 1) for it.");
        StringToll x = new StringToll();
        cutOf(x, 0, 2, 4, 1);
        cutOf(x, 3, 2, 12, 1);
        cutOf(x, 5, 2, 24, 1);
        cutOf(x, 0, 3, 4, 1);
        cutOf(x, 0, 4, 4, 2);
        cutOf(x, 0, 60, 60, 2);
        cutOf(x, 0, 59, 60, 1);
        cutOf(x, 2, 60, 12, 1);
        // kites of 1 and 59 show 6 and 64, 3 and 32: of 2 and 58 7 and 63, one more
        cutOf(x, 3, 60, 70, 1);
        due.is("of LENGTH 1", x.cuts(0, 1, 0), StringToll.BAD);
        due.is("of LENGTH 61", x.cuts(0, 61, 0), StringToll.BAD);
        // in this HOUR: silk by night, and by day
        States.toHour(x, 5);
        cutOf(x, 1, 60, 0, 1);
        cutOf(x, 4, 60, 0, 1);
        States.toHour(x, 6);
        cutOf(x, 1, 60, 60, 2);
        // black ones of 4 and 56 show 2 and 28, 1 and 14; of 1, 2 or 3 and the rest it is one more at each end
        cutOf(x, 4, 60, 30, 4);
        States.toHour(x, 17);
        cutOf(x, 1, 60, 60, 2);
        States.toHour(x, 18);
        cutOf(x, 1, 60, 0, 1);
        x.house(0, LAZY);
        x.house(1, LAZY);
        cutOf(x, 5, 60, 0, 1);
        States.toHour(x, 23);
        cutOf(x, 5, 60, 0, 1);
        States.toHour(x, 24);
        cutOf(x, 0, 60, 60, 2);
    }

    private static void row(String what, StringToll x, int more, int... sent) {
        due.is(what + ": by how much more", x.row(-2), more);
        due.is(what + ": how many", x.row(-1), sent.length);
        for (int i = 0; i < sent.length; i++) {
            due.is(what + ": the " + i + "-th", x.row(i), sent[i]);
        }
        due.is(what + ": not so many", x.row(sent.length), -5);
        due.is(what + ": not so many by far", x.row(Integer.MAX_VALUE), -5);
    }

    private static void rowsOfNone() {
        due.says("so that HAUL is most: by how much more; how many are sent, the i-th one, in the first such row "
            + "(one ahead of all that go on from it, then by STRINGS rising; the empty one first of all).");
        row("no STRINGS", new StringToll(), 0);
        row("hail alone", States.of(20, 9999, 0, 19, 0, 1), 0);
        row("none is paid", States.of(20, 59, 0, 60), 0);
        StringToll x = States.of(1, 9999, 0, 1, 0, 1, 0, 1, 0, 1, 0, 1);
        row("five", x, 5, 0, 1, 2, 3, 4);
        x.province(20, 100);
        row("none behind five", x, 0);
        x.string(0, 20);
        row("one behind none", x, 1, 0);
        x.sends(0);
        row("one, though it was sent", x, 1, 0);
    }

    private static void rowsOfAll() {
        row("hail ahead", States.of(20, 9999, 0, 19, 0, 20), 1, 0, 1);
        row("hail behind", States.of(20, 9999, 0, 20, 0, 19), 1, 0);
        row("hail between", States.of(20, 9999, 0, 20, 0, 19, 0, 20), 2, 0, 1, 2);
        row("all but the last", States.of(20, 9999, 0, 60, 0, 60, 0, 60, 0, 60, 0, 19), 164, 0, 1, 2, 3);
        row("the last alone, hail ahead of it", States.of(20, 9999, 0, 1, 0, 1, 0, 1, 0, 1, 0, 60), 41, 0, 1, 2, 3, 4);
    }

    private static void rowsByPurse() {
        due.says("ROW: STRINGS sent one behind the other, one in each HOUR from now on (all that PURSE holds then), "
            + "each once at most:");
        row("each once", States.of(20, 9999, 0, 60), 41, 0);
        row("just paid", States.of(20, 60, 0, 20, 0, 40), 22, 0, 1);
        row("one too few", States.of(20, 59, 0, 20, 0, 40), 21, 1);
        row("one too few for the second", States.of(20, 39, 0, 20, 0, 40), 1, 0);
        row("none for hail, then", States.of(20, 41, 0, 2, 0, 40), 21, 1);
        row("hail, then", States.of(20, 42, 0, 2, 0, 40), 21, 0, 1);
        row("of like ones the first", States.of(20, 40, 0, 40, 0, 40), 21, 0);
        row("nothing for what is free", States.of(20, 0, 1, 60, 4, 60), 82, 0, 1);
        row("five, to the last", States.of(20, 150, 0, 30, 0, 30, 0, 30, 0, 30, 0, 30), 55, 0, 1, 2, 3, 4);
        row("four of five", States.of(20, 149, 0, 30, 0, 30, 0, 30, 0, 30, 0, 30), 44, 0, 1, 2, 3);
    }

    private static void rowsByHour() {
        StringToll x = States.of(20, 0, 1, 60, 1, 50, 1, 40);
        States.toHour(x, 3);
        row("three hours of the night", x, 93, 0, 1, 2);
        States.toHour(x, 4);
        row("two hours", x, 72, 0, 1);
        States.toHour(x, 5);
        row("one hour", x, 41, 0);
        States.toHour(x, 6);
        row("day", x, 0);
        States.toHour(x, 17);
        row("day still", x, 0);
        States.toHour(x, 18);
        row("night", x, 93, 0, 1, 2);
        x = States.of(20, 8, 0, 2, 0, 2, 0, 2, 0, 2, 1, 60);
        States.toHour(x, 14);
        row("silk as the fifth, in the first hour of the night", x, 41, 0, 1, 2, 3, 4);
        x = States.of(20, 8, 0, 2, 0, 2, 0, 2, 0, 2, 1, 60);
        States.toHour(x, 13);
        row("none ahead of the night", x, 0);
        x = States.of(20, 0, 0, 20);
        x.house(0, LAZY);
        x.house(1, LAZY);
        States.toHour(x, 23);
        row("the last hour of a lazy DAY", x, 1, 0);
        States.toHour(x, 24);
        row("the first of the next", x, 0);
    }

    private static void came() {
        due.says("CAME 0 .. 5, as they come: of a LENGTH l (1 .. 60) x (0 .. 60) came down (as BRINGS tells).");
        StringToll x = new StringToll();
        for (int k = 0; k < 6; k++) {
            due.is("how many", x.came(60 - k, k), k + 1);
        }
        due.is("none behind the sixth", x.came(1, 1), StringToll.FULL);
        due.is("six", x.count(1), 6);
        lineOf(1, 1, 1);
        lineOf(60, 60, 1);
        lineOf(60, 1, 60);
        lineOf(59, 1, 59);
        lineOf(30, 30, 1);
        lineOf(30, 31, 0);
        lineOf(1, 2, 0);
        lineOf(1, 60, 0);
        lineOf(59, 60, 0);
        due.is("LENGTH 0", x.came(0, 0), StringToll.BAD);
        due.is("LENGTH 61", x.came(61, 0), StringToll.BAD);
        due.is("x -1", x.came(1, -1), StringToll.BAD);
        due.is("x 61", x.came(60, 61), StringToll.BAD);
    }

    /** The one line by which x comes down of a length; 0: there is none. */
    private static void lineOf(int l, int x, int line) {
        StringToll t = new StringToll();
        t.came(l, x);
        due.is(x + " of " + l + ": how many", t.lines(0), line == 0 ? 0 : 1);
        due.is(x + " of " + l + ": the least", t.lines(1), line == 0 ? StringToll.NONE : line);
        due.is(x + " of " + l + ": the greatest", t.lines(2), line == 0 ? StringToll.NONE : line);
        due.is(x + " of " + l + ": try", t.tries(), line == 0 ? StringToll.NONE : 1);
    }

    private static void lines() {
        due.says("LINES: where THE LINE may be (1 .. 60), so that all CAME are so: how many; the least; "
            + "the greatest (NONE: none).");
        linesBehind(60, 1, 60);
        linesBehind(59, 2, 60, 1, 0);
        linesBehind(40, 21, 60, 20, 0);
        linesBehind(2, 59, 60, 58, 0);
        linesBehind(1, 60, 60, 59, 0);
        linesBehind(0, StringToll.NONE, StringToll.NONE, 60, 0);
        linesBehind(1, 60, 60, 60, 1);
        linesBehind(1, 1, 1, 60, 60);
        linesBehind(1, 30, 30, 29, 0, 30, 1, 31, 2, 60, 31, 1, 0, 28, 0);
        // each of six is looked at, the sixth too
        linesBehind(0, StringToll.NONE, StringToll.NONE, 29, 0, 30, 1, 31, 2, 60, 31, 1, 0, 30, 0);
        linesBehind(0, StringToll.NONE, StringToll.NONE, 30, 0, 30, 1);
    }

    private static void linesBehind(int many, int least, int greatest, int... came) {
        StringToll x = new StringToll();
        for (int k = 0; k < came.length; k += 2) {
            x.came(came[k], came[k + 1]);
        }
        due.is("how many", x.lines(0), many);
        due.is("the least", x.lines(1), least);
        due.is("the greatest", x.lines(2), greatest);
        due.is("none is refused", x.status(0) + x.status(1) + x.status(2), 0);
        due.is("THE LINE stays", x.now(0), 20);
    }

    private static void tries() {
        due.says("TRY: the LENGTH (1 .. 60) that parts LINES that fit best: by which the most of them that would BRING "
            + "alike are fewest; of like ones the least; none: no LINE.");
        due.is("all", new StringToll().tries(), 59);
        for (int l = 1; l <= 60; l++) {
            StringToll x = new StringToll();
            x.came(l, 0);
            // 59 leaves the line of 60 alone as hail; where that is the only one, any length parts it
            due.is("hail of " + l, x.tries(), l == 60 ? StringToll.NONE : l == 59 ? 1 : 59);
            due.is("NONE is not refused", x.status(0) + x.status(1) + x.status(2), 0);
        }
    }

    private static void notes() {
        due.says("NOTES 0 .. 5, as they come: a STRING of LENGTH l (1 .. 60) SHOWED x (0 .. 200) at hour h (0 .. 23).");
        StringToll x = States.of(20, 0, 0, 20, 0, 20);
        for (int k = 0; k < 6; k++) {
            due.is("how many", x.note(k % 2, 60, 23, 200), k + 1);
        }
        due.is("none behind the sixth, of neither", x.note(0, 1, 0, 0), StringToll.FULL);
        due.is("none behind the sixth, of neither", x.note(1, 1, 0, 0), StringToll.FULL);
        due.is("six", x.count(2), 6);
    }

    private static int isBy(int... notes) {
        StringToll x = States.of(20, 0, 0, 20);
        for (int k = 0; k < notes.length; k += 3) {
            x.note(0, notes[k], notes[k + 1], notes[k + 2]);
        }
        return x.is(0);
    }

    private static void is() {
        due.says("IS: KINDS (bits) by which all NOTES of one are so.");
        int plain = 1, silk = 2, pond = 4, kite = 8, black = 16, chain = 32;
        due.is("no NOTES: all", isBy(), 63);
        due.is("none", isBy(1, 0, 200), 0);
        due.is("0 at 5", isBy(60, 5, 0), silk + black);
        due.is("0 at 6", isBy(60, 6, 0), 0);
        due.is("0 at 17", isBy(60, 17, 0), 0);
        due.is("0 at 18", isBy(60, 18, 0), silk + black);
        due.is("9 of 9 at 5", isBy(9, 5, 9), plain + pond);
        due.is("9 of 9 at 6", isBy(9, 6, 9), plain + silk + pond);
        due.is("10 of 10", isBy(10, 12, 10), plain + silk + pond);
        due.is("11 of 11", isBy(11, 12, 11), plain + silk);
        due.is("10 of 11", isBy(11, 12, 10), pond);
        due.is("10 of 20", isBy(20, 12, 10), pond + black);
        due.is("1 of 1 at 6", isBy(1, 6, 1), plain + silk + pond + black);
        due.is("65 of 60", isBy(60, 23, 65), kite);
        due.is("6 of 1", isBy(1, 0, 6), kite);
        due.is("98 of 44", isBy(44, 0, 98), chain);
        due.is("99 of 45", isBy(45, 0, 99), chain);
        due.is("100 of 45", isBy(45, 0, 100), 0);
        due.is("99 of 60", isBy(60, 0, 99), chain);
        due.is("the sixth is looked at", isBy(9, 9, 9, 9, 9, 9, 9, 9, 9, 9, 9, 9, 9, 9, 9, 9, 0, 0), silk);
        StringToll x = States.of(20, 0, 0, 20, 0, 20);
        x.note(1, 1, 0, 200);
        due.is("of the other one", x.is(0), 63);
        due.is("of one", x.is(1), 0);
    }

    private static int lookBy(int length, int... notes) {
        StringToll x = States.of(20, 0, 5, length);
        for (int k = 0; k < notes.length; k += 3) {
            x.note(0, notes[k], notes[k + 1], notes[k + 2]);
        }
        int hour = x.look(0);
        due.is("nothing is refused", x.status(0) + x.status(1) + x.status(2), 0);
        return hour;
    }

    private static void look() {
        due.says("LOOK: the hour h (0 .. 23) by which, its LENGTH as it is, the most of these KINDS that SHOW alike "
            + "are fewest; of like ones the least; none: no KIND.");
        due.is("none", lookBy(20, 1, 0, 200), StringToll.NONE);
        due.is("one", lookBy(20, 60, 0, 99), 0);
        due.is("silk and black of 1 are alike", lookBy(1, 20, 0, 0), 0);
        due.is("silk and black of 2 are not by day", lookBy(2, 20, 0, 0), 6);
        due.is("silk and black of 60 are not by day", lookBy(60, 20, 0, 0), 6);
        due.is("plain and silk are not by night", lookBy(20, 20, 12, 20), 0);
        due.is("plain and pond of 10 are alike", lookBy(10, 9, 0, 9), 0);
        due.is("plain and pond of 11 are not", lookBy(11, 9, 0, 9), 0);
        due.is("pond and black of 20 are alike by day", lookBy(20, 20, 12, 10), 0);
        // 30, 0, 10, 0 by night, 30, 30, 10, 15 by day: two of the four are alike either way
        due.is("plain, silk, pond, black of 30", lookBy(30, 1, 12, 1), 0);
        due.is("all of 30", lookBy(30), 0);
        due.is("all of 60", lookBy(60), 0);
        // 1, 0, 1, 6, 0, 12 by night, 1, 1, 1, 6, 1, 12 by day
        due.is("all of 1", lookBy(1), 0);
    }

    private static void marks() {
        due.says("MARKS 0 .. 5, as they come: a HOUSE CHARGED x (0 .. 200) for s (0 .. 99) on DAY d (0 .. 99).");
        StringToll x = new StringToll();
        for (int k = 0; k < 6; k++) {
            due.is("how many", x.mark(k % 2, 99, 99, 200), k + 1);
        }
        due.is("none behind the sixth, of neither", x.mark(0, 0, 0, 0), StringToll.FULL);
        due.is("none behind the sixth, of neither", x.mark(1, 0, 0, 0), StringToll.FULL);
        due.is("six", x.count(3), 6);
    }

    private static int whatBy(int... marks) {
        StringToll x = new StringToll();
        for (int k = 0; k < marks.length; k += 3) {
            x.mark(1, marks[k], marks[k + 1], marks[k + 2]);
        }
        return x.kinds(1);
    }

    private static void what() {
        due.says("WHAT: KINDS of HOUSES (bits) by which all MARKS of one are so.");
        int plain = 1, steep = 2, lazy = 4, greedy = 8, bird = 16, stamp = 32;
        due.is("no MARKS: all", whatBy(), 63);
        due.is("none", whatBy(99, 99, 200), 0);
        due.is("0 for 0", whatBy(0, 1, 0), 63);
        due.is("1 for 0", whatBy(0, 1, 1), 0);
        due.is("0 for 1 on 0", whatBy(1, 0, 0), lazy);
        due.is("0 for 1 on 1", whatBy(1, 1, 0), 0);
        due.is("0 for 99 on 98", whatBy(99, 98, 0), lazy);
        due.is("0 for 99 on 99", whatBy(99, 99, 0), 0);
        due.is("5 for 9 on 6", whatBy(9, 6, 5), plain + steep + lazy + bird);
        due.is("5 for 9 on 7", whatBy(9, 7, 5), plain + steep + bird);
        due.is("5 for 10 on 6", whatBy(10, 6, 5), plain + lazy);
        due.is("6 for 10", whatBy(10, 6, 6), steep + bird);
        due.is("4 for 1", whatBy(1, 0, 4), greedy);
        due.is("5 for 1", whatBy(1, 0, 5), stamp);
        due.is("5 for 4", whatBy(4, 0, 5), greedy + stamp);
        due.is("10 for 14", whatBy(14, 0, 10), greedy + stamp);
        due.is("25 for 41", whatBy(41, 0, 25), steep + bird + stamp);
        due.is("25 for 43", whatBy(43, 0, 25), greedy + bird + stamp);
        due.is("25 for 45", whatBy(45, 0, 25), bird);
        due.is("59 for 99", whatBy(99, 0, 59), steep);
        due.is("50 for 99 on 97", whatBy(99, 97, 50), plain + lazy);
        due.is("the sixth is looked at", whatBy(9, 6, 5, 9, 6, 5, 9, 6, 5, 9, 6, 5, 9, 6, 5, 10, 6, 6), steep + bird);
        StringToll x = new StringToll();
        x.mark(0, 0, 0, 200);
        due.is("of the other one", x.kinds(1), 63);
        due.is("of one", x.kinds(0), 0);
    }

    private static int askBy(int... marks) {
        StringToll x = new StringToll();
        for (int k = 0; k < marks.length; k += 3) {
            x.mark(0, marks[k], marks[k + 1], marks[k + 2]);
        }
        int asked = x.ask(0);
        due.is("nothing is refused", x.status(0) + x.status(1) + x.status(2), 0);
        return asked;
    }

    private static void ask() {
        due.says("ASK: 100 d and s (d 0, 1, s 0 .. 99) by which the most of these KINDS that CHARGE alike are fewest; "
            + "of like ones the least; none: no KIND.");
        due.is("none", askBy(99, 99, 200), StringToll.NONE);
        due.is("one", askBy(99, 0, 59), 0);
        due.is("plain or lazy: the lazy DAY tells", askBy(10, 6, 5), 1);
        due.is("greedy or stamp", askBy(14, 0, 10), 1);
        due.is("steep or bird", askBy(10, 6, 6), 43);
        due.is("plain, steep or bird", askBy(9, 7, 5), 43);
        due.is("greedy, bird or stamp", askBy(43, 0, 25), 1);
        // 1, 1, 0, 1 for 1; 5, 6, 0, 6 for 10; 22, 26, 0, 25 for 43
        due.is("plain, steep, lazy or bird", askBy(9, 6, 5), 43);
        due.is("all", askBy(), 45);
    }

    private static void ends(String what, StringToll x, int... pairs) {
        due.is(what + ": how many", x.ends(-1), pairs.length);
        for (int k = 0; k < pairs.length; k++) {
            due.is(what + ": the " + k + "-th", x.ends(k), pairs[k]);
        }
        due.is(what + ": not so many", x.ends(pairs.length), -5);
        due.is(what + ": not so many by far", x.ends(Integer.MAX_VALUE), -5);
    }

    private static final int[] ALL_PAIRS = {
        0, 1, 2, 3, 4, 5, 10, 11, 12, 13, 14, 15, 20, 21, 22, 23, 24, 25,
        30, 31, 32, 33, 34, 35, 40, 41, 42, 43, 44, 45, 50, 51, 52, 53, 54, 55,
    };
    /** A lazy end against a plain one is all that is sent: what the plain one gets makes the others rest not. */
    private static final int[] ALL_BUT_LAZY = {
        0, 1, 2, 3, 4, 5, 10, 11, 13, 14, 15, 20, 30, 31, 33, 34, 35, 40, 41, 43, 44, 45, 50, 51, 53, 54, 55,
    };

    private static void endsPairs() {
        due.says("ENDS: each end lays a toll of KIND i (below), j (above) (0 .. 5):");
        ends("no STRINGS", new StringToll(), ALL_PAIRS);
        ends("hail", States.of(20, 9999, 0, 19), ALL_PAIRS);
        ends("silk by night", States.of(20, 9999, 1, 60), ALL_PAIRS);
        due.says("to each end what it CHARGES for all that are sent: pairs 10 i and j that rest "
            + "(neither would get more by another KIND): how many; the k-th (rising).");
        // 60 is charged 30, 36, 0, 33, 25, 35 and brings 60: it is sent by each pair, and steep gets most
        ends("sent by all", States.of(1, 0, 0, 60), 11);
        // 31 is charged 16, 19, 0, 19, 19, 20
        ends("stamp gets most", States.of(1, 0, 0, 31), 55);
        // 30 is charged 15, 18, 0, 18, 18, 20: three alike below it do not rest
        ends("30", States.of(1, 0, 0, 30), 55);
        // 60 and 31 together: 46, 55, 0, 52, 44, 55
        ends("steep and stamp get alike", States.of(1, 0, 0, 60, 0, 31), 11, 15, 51, 55);
    }

    private static void endsTwice() {
        due.says("a STRING is sent in this HOUR (apart from PURSE), if its COST so is no more than twice what it BRINGS:");
        // 12 over a line of 10 brings 3; a plain end and a lazy one charge 6, no more than twice that
        ends("just twice", States.of(10, 0, 0, 12), ALL_BUT_LAZY);
        // 13 over 11 brings 3; they charge 7, one more
        ends("one more than twice", States.of(11, 0, 0, 13), ALL_PAIRS);
        // 11 over 9 brings 3, and is charged 6, as 12 is, or 7 by steep and bird
        ends("just twice, cut up", States.of(9, 0, 0, 11), ALL_BUT_LAZY);
        ends("PURSE does not matter", States.of(10, 9999, 0, 12), ALL_BUT_LAZY);
    }

    private static void endsByHour() {
        due.says("a STRING is sent in this HOUR (apart from PURSE), if its COST so is no more than twice what it BRINGS:");
        StringToll x = States.of(1, 0, 1, 60);
        States.toHour(x, 5);
        ends("silk at 5", x, ALL_PAIRS);
        States.toHour(x, 6);
        ends("silk at 6", x, 11);
        x = States.of(1, 0, 1, 60);
        States.toHour(x, 17);
        ends("silk at 17", x, 11);
        States.toHour(x, 18);
        ends("silk at 18", x, ALL_PAIRS);
        for (int hour : new int[] {0, 1, 23, 168, 191}) {
            x = States.of(10, 0, 0, 12);
            States.toHour(x, hour);
            due.is("a lazy DAY, at " + hour, x.ends(-1), ALL_BUT_LAZY.length);
        }
        for (int hour : new int[] {24, 25, 167, 192}) {
            x = States.of(10, 0, 0, 12);
            States.toHour(x, hour);
            due.is("no lazy DAY, at " + hour, x.ends(-1), 36);
        }
    }

    private static void scissorsBy(int c, StringToll x, int above, int below) {
        due.is("scissors(" + c + ")", x.scissors(c), 1);
        due.is("scissors(" + c + "): above", x.part(0), above);
        due.is("scissors(" + c + "): below", x.part(1), below);
    }

    private static void scissors() {
        due.says("SCISSORS: by c of 10 (0 .. 10) each STRING, apart, is cut to half of its LENGTH (cut): "
            + "what all BRING together, in the mean: THE FRACTION.");
        scissorsBy(0, new StringToll(), 0, 1);
        scissorsBy(10, new StringToll(), 0, 1);
        // halves of 39, 40, 41 are 19, 20, 20
        scissorsBy(0, States.of(20, 0, 0, 39), 20, 1);
        scissorsBy(10, States.of(20, 0, 0, 39), 0, 1);
        scissorsBy(10, States.of(20, 0, 0, 40), 1, 1);
        scissorsBy(10, States.of(20, 0, 0, 41), 1, 1);
        scissorsBy(10, States.of(20, 0, 0, 42), 2, 1);
        // half of 1 is 0, which is hail by any line
        scissorsBy(10, States.of(1, 0, 0, 1), 0, 1);
        scissorsBy(9, States.of(1, 0, 0, 1), 1, 10);
        scissorsBy(1, States.of(1, 0, 0, 1), 9, 10);
        scissorsBy(0, States.of(1, 0, 0, 1), 1, 1);
        int[] most = {1, 60, 1, 60, 1, 60, 1, 60, 1, 60};
        scissorsBy(0, States.of(1, 0, most), 300, 1);
        scissorsBy(1, States.of(1, 0, most), 285, 1);
        scissorsBy(10, States.of(1, 0, most), 150, 1);
        scissorsBy(10, States.of(60, 0, most), 0, 1);
        due.is("c -1", new StringToll().scissors(-1), StringToll.BAD);
        due.is("c 11", new StringToll().scissors(11), StringToll.BAD);
    }

    private static void nightsNumbers() {
        due.says("NIGHTS by a SEED (0 .. 999999), n (0 .. 60) HOURS: X is SEED at first; in each HOUR X becomes X times "
            + "1103515245 and 12345, by 2147483648 what is left over;");
        StringToll x = States.of(1, 9999, 2, 1, 2, 10, 2, 20, 2, 30, 2, 40);
        due.is("no HOURS", x.nights(0, 0), 0);
        due.is("no HOURS, the greatest SEED", x.nights(999999, 0), 0);
        // behind one HOUR X is 12345, behind two 1406932606, behind three 654583775
        due.is("SEED 0, an HOUR", x.nights(0, 1), 1);
        due.is("SEED 0, two: X by 65536 is 21468, by 6 none left", x.nights(0, 2), 2);
        due.is("SEED 0, three: 9988, by 6 4 left", x.nights(0, 3), 42);
        // X is 1751684876, 836118613, 1060586090: STRING 4, 2, 1
        due.is("SEED 999999, an HOUR", x.nights(999999, 1), 40);
        due.is("SEED 999999, two", x.nights(999999, 2), 60);
        due.is("SEED 999999, three", x.nights(999999, 3), 70);
        due.is("60 HOURS are no fewer than 59", Math.min(x.nights(7, 60) - x.nights(7, 59), 0), 0);
        due.is("SEED -1", x.nights(-1, 1), StringToll.BAD);
        due.is("SEED 1000000", x.nights(1000000, 1), StringToll.BAD);
        due.is("-1 HOURS", x.nights(0, -1), StringToll.BAD);
        due.is("61 HOURS", x.nights(0, 61), StringToll.BAD);
    }

    private static void nightsOfNone() {
        due.says("STRING X by 65536 (cut), by 6 left over (not there: none), is sent, if it can be paid: "
            + "by how much HAUL is more behind them.");
        due.is("no STRINGS", new StringToll().nights(0, 60), 0);
        // SEED 3 is the sixth, which is never there
        due.is("a sixth", States.of(1, 9999, 2, 9, 2, 9, 2, 9, 2, 9, 2, 9).nights(3, 1), 0);
        // SEED 1 is STRING 2
        due.is("STRING 2 of 2", States.of(1, 9999, 2, 9, 2, 9).nights(1, 1), 0);
        due.is("STRING 2 of 3", States.of(1, 9999, 2, 9, 2, 9, 2, 7).nights(1, 1), 7);
        due.is("hail", States.of(10, 9999, 2, 9, 2, 9, 2, 9).nights(1, 1), 0);
        StringToll x = States.of(1, 9999, 2, 9, 2, 9, 2, 7);
        x.sends(0);
        due.is("more than HAUL was", x.nights(1, 1), 7);
    }

    private static void nightsPaid() {
        // SEED 0 sends STRING 0 in its first two HOURS
        due.is("paid to the last", States.of(1, 10, 0, 9).nights(0, 1), 9);
        due.is("one too few", States.of(1, 9, 0, 9).nights(0, 1), 0);
        due.is("two, to the last", States.of(1, 20, 0, 9).nights(0, 2), 18);
        due.is("two, one too few", States.of(1, 19, 0, 9).nights(0, 2), 9);
        StringToll x = States.of(1, 0, 1, 9);
        States.toHour(x, 5);
        due.is("the HOUR that it is sent in: night, then day", x.nights(0, 2), 9);
        States.toHour(x, 17);
        due.is("an HOUR goes by, sent or not: day, then night", x.nights(0, 2), 9);
        States.toHour(x, 18);
        due.is("night", x.nights(0, 2), 18);
    }
}
