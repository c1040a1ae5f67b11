/** Promises 13 to 16: asks, cheapest, cuts, row. */
public final class CostsTest {
    private static final Due due = new Due("CostsTest");

    public static void main(String[] args) {
        shows();
        charges();
        asksEdges();
        cheapest();
        cuts();
        rows();
        rowOrder();
        rowPaysAsItGoes();
        due.end();
    }

    private static int shown(int kind, int length, int hour) {
        StringToll x = new StringToll();
        x.string(kind, length);
        return x.asks(0, hour, 0);
    }

    private static void shows() {
        int[][] dues = {
            // kind, length, hour, what it shows
            {0, 1, 0, 1}, {0, 60, 12, 60},
            {1, 7, 5, 0}, {1, 7, 6, 7}, {1, 7, 17, 7}, {1, 7, 18, 0}, {1, 7, 23, 0}, {1, 7, 24, 0}, {1, 7, 30, 7},
            {2, 9, 0, 9}, {2, 10, 0, 10}, {2, 11, 12, 10},
            {3, 1, 0, 6}, {3, 60, 12, 65},
            {4, 7, 5, 0}, {4, 7, 6, 4}, {4, 8, 17, 4}, {4, 1, 12, 1}, {4, 60, 18, 0},
            {5, 1, 0, 12}, {5, 44, 12, 98}, {5, 45, 0, 99}, {5, 60, 0, 99},
        };
        for (int[] d : dues) {
            due.is("kind " + d[0] + ", length " + d[1] + ", hour " + d[2], shown(d[0], d[1], d[2]), d[3]);
        }
    }

    /** What a house above charges for a string that shows s, the one below being lazy on day 0. */
    private static int charged(int kind, int s) {
        StringToll x = new StringToll();
        x.house(0, 2);
        x.house(1, kind);
        x.string(s == 99 ? 5 : s == 0 ? 1 : 0, s == 99 ? 60 : Math.max(s, 1));
        return x.asks(0, 0, 1);
    }

    private static void charges() {
        int[][] dues = {
            // kind, what shows, what is charged on day 0
            {0, 0, 0}, {0, 1, 1}, {0, 2, 1}, {0, 3, 2}, {0, 99, 50},
            {1, 0, 0}, {1, 9, 5}, {1, 10, 6}, {1, 19, 11}, {1, 20, 12}, {1, 99, 59},
            {2, 0, 0}, {2, 60, 0}, {2, 99, 0},
            {3, 0, 0}, {3, 1, 4}, {3, 2, 4}, {3, 60, 33},
            {4, 0, 0}, {4, 40, 24}, {4, 41, 25}, {4, 42, 25}, {4, 43, 25}, {4, 99, 25},
            {5, 0, 0}, {5, 1, 5}, {5, 4, 5}, {5, 5, 10}, {5, 14, 10}, {5, 15, 15}, {5, 99, 55},
        };
        for (int[] d : dues) {
            due.is("house of kind " + d[0] + " for " + d[1], charged(d[0], d[1]), d[2]);
        }
        StringToll x = new StringToll();
        x.house(0, 2);
        x.house(1, 2);
        x.string(0, 9);
        x.waits(99);
        x.waits(45);
        due.is("day 6", x.asks(0, 0, 1), 10);
        due.is("day 6, its last hour", x.asks(0, 23, 1), 10);
        due.is("day 7", x.asks(0, 24, 1), 0);
        due.is("day 7, its last hour", x.asks(0, 47, 1), 0);
    }

    private static void asksEdges() {
        StringToll x = new StringToll();
        x.string(0, 20);
        x.string(0, 19);
        due.is("brings", x.asks(0, 47, 2), 1);
        due.is("brings", x.asks(1, 0, 2), 0);
        due.is("asks(-1, 0, 0)", x.asks(-1, 0, 0), StringToll.BAD);
        due.is("asks(2, 0, 0)", x.asks(2, 0, 0), StringToll.BAD);
        due.is("asks(0, -1, 0)", x.asks(0, -1, 0), StringToll.BAD);
        due.is("asks(0, 48, 2)", x.asks(0, 48, 2), StringToll.BAD);
        due.is("asks(0, 0, -1)", x.asks(0, 0, -1), StringToll.BAD);
        due.is("asks(0, 0, 3)", x.asks(0, 0, 3), StringToll.BAD);
        due.is("status(0)", x.status(0), 6);
        long before = x.digest();
        x.asks(0, 5, 1);
        due.is("nothing is changed", x.digest(), before);
    }

    private static void cheapest() {
        StringToll x = new StringToll();
        x.string(1, 21);
        x.string(0, 21);
        due.is("by night now", x.cheapest(0, 0), 0);
        due.is("for nothing", x.cheapest(0, 1), 0);
        x.waits(6);
        due.is("in twelve hours", x.cheapest(0, 0), 12);
        due.is("for nothing", x.cheapest(0, 1), 0);
        due.is("plain: of like ones the first", x.cheapest(1, 0), 0);
        due.is("plain: both ends", x.cheapest(1, 1), 22);
        x.house(1, 2);
        x.house(0, 2);
        x.waits(99);
        x.waits(15);
        due.is("hour 120 of day 5: day 7 is one too far", x.cheapest(1, 0), 0);
        due.is("paid", x.cheapest(1, 1), 22);
        x.waits(1);
        due.is("day 7 in 47 hours", x.cheapest(1, 0), 47);
        due.is("for nothing", x.cheapest(1, 1), 0);
        due.is("cheapest(2, 0)", x.cheapest(2, 0), StringToll.BAD);
        due.is("cheapest(-1, 0)", x.cheapest(-1, 0), StringToll.BAD);
        due.is("cheapest(0, 2)", x.cheapest(0, 2), StringToll.BAD);
        due.is("cheapest(0, -1)", x.cheapest(0, -1), StringToll.BAD);
        due.is("status(0)", x.status(0), 4);
    }

    private static void cuts() {
        StringToll x = new StringToll();
        due.is("of 2", x.cuts(0, 2, 0), 4);
        due.is("at 1", x.cuts(0, 2, 1), 1);
        // 4 into 1 and 3: (1 + 2) twice; into 2 and 2: (1 + 1) twice
        due.is("of 4", x.cuts(0, 4, 0), 4);
        due.is("at 2", x.cuts(0, 4, 1), 2);
        due.is("silk by night", x.cuts(1, 60, 0), 0);
        due.is("at 1", x.cuts(1, 60, 1), 1);
        // a pond shows 10 at most: 59 and 1 show 10 and 1
        due.is("pond", x.cuts(2, 60, 0), 12);
        due.is("pond at", x.cuts(2, 60, 1), 1);
        x.house(0, 4);
        x.house(1, 4);
        // bird is 25 at most: 58 is 25 (34 without), 2 is 1; 59 is 25, 1 is 1
        due.is("birds", x.cuts(0, 60, 0), 52);
        due.is("birds at", x.cuts(0, 60, 1), 1);
        due.is("no STRING is wanted", x.count(0), 0);
        due.is("cuts(-1, 2, 0)", x.cuts(-1, 2, 0), StringToll.BAD);
        due.is("cuts(6, 2, 0)", x.cuts(6, 2, 0), StringToll.BAD);
        due.is("cuts(0, 1, 0)", x.cuts(0, 1, 0), StringToll.BAD);
        due.is("cuts(0, 61, 0)", x.cuts(0, 61, 0), StringToll.BAD);
        due.is("cuts(0, 2, -1)", x.cuts(0, 2, -1), StringToll.BAD);
        due.is("cuts(0, 2, 2)", x.cuts(0, 2, 2), StringToll.BAD);
        due.is("status(0)", x.status(0), 6);
    }

    private static void row(String what, StringToll x, int more, int... sent) {
        due.is(what + ": by how much", x.row(-2), more);
        due.is(what + ": how many", x.row(-1), sent.length);
        for (int i = 0; i < sent.length; i++) {
            due.is(what + ": the " + i + "-th", x.row(i), sent[i]);
        }
        due.is(what + ": not so many", x.row(sent.length), -5);
    }

    private static void rows() {
        StringToll x = new StringToll();
        row("none", x, 0);
        x.string(0, 19);
        row("hail alone", x, 0);
        due.is("row(-3)", x.row(-3), -10);
        due.is("row(min)", x.row(Integer.MIN_VALUE), -10);
        due.is("row(max)", x.row(Integer.MAX_VALUE), -5);
        due.is("-10 is BAD, -5 is none", x.status(0), 2);
        due.is("no NO", x.status(1), 0);
    }

    private static void rowOrder() {
        StringToll x = new StringToll();
        x.province(20, 1000);
        x.string(0, 19);
        x.string(0, 30);
        x.string(0, 18);
        x.string(0, 40);
        // hail ahead of sweets stands in the first row, hail behind the last sweets would go on from it
        row("the first of many", x, 32, 0, 1, 2, 3);
        x.province(20, 1000);
        x.string(0, 30);
        x.string(0, 40);
        x.string(0, 5);
        row("hail behind is left", x, 32, 0, 1);
    }

    private static void rowPaysAsItGoes() {
        StringToll x = new StringToll();
        x.province(20, 40);
        x.string(0, 30);
        x.string(0, 40);
        row("one of two", x, 21, 1);
        x.province(20, 30);
        x.waits(17);
        x.string(1, 60);
        x.string(0, 30);
        // hour 17 is day: silk is dear now and free in an hour
        row("silk waits for the night", x, 52, 1, 0);
        x.province(20, 0);
        x.waits(5);
        x.string(1, 60);
        x.string(4, 50);
        // the last hour of the night is for one of them
        row("one by night", x, 41, 0);
        long before = x.digest();
        x.row(-2);
        due.is("nothing is changed", x.digest(), before);
    }
}
