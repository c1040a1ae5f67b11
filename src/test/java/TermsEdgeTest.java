/** The boundaries that "What it is" and the first half of "Terms" name: hours, kinds, costs, sendings. */
public final class TermsEdgeTest {
    private static final Due due = new Due("TermsEdgeTest");
    private static final int LAZY = 2;

    public static void main(String[] args) {
        hours();
        days();
        calls512();
        strings();
        houses();
        line();
        purse();
        night();
        kindsOfStrings();
        plainHouses();
        kindsOfHouses();
        cost();
        brings();
        sending();
        stampsComeDown();
        waiting();
        due.end();
    }

    private static void hours() {
        due.says("1 HOURS have numbers, 0 at first (9999 at most)");
        StringToll x = States.of(20, 100, 1, 30);
        due.is("at first", x.now(6), 0);
        States.toHour(x, 9998);
        due.is("the last but one", x.now(6), 9998);
        due.is("a wait to the last", x.waits(1), 9999);
        due.is("none behind it by a wait", x.waits(1), 9999);
        due.is("none behind it by many", x.waits(99), 9999);
        due.is("none behind it by a sending", x.sends(0), StringToll.NO);
        due.is("the last", x.now(6), 9999);
        StringToll y = States.of(20, 100, 1, 30);
        States.toHour(y, 9998);
        y.sends(0);
        due.is("the last by a sending", y.now(6), 9999);
    }

    private static void days() {
        due.says("of a DAY (HOUR by 24, cut) that by 24 left over.");
        // a lazy house tells the DAY: it charges nothing on 0, 7 .. 413, silk tells the hour
        int[][] dues = {
            // HOUR, what a plain string of 10 costs with one lazy house, whether silk shows
            {0, 5, 0}, {5, 5, 0}, {6, 5, 1}, {17, 5, 1}, {18, 5, 0}, {23, 5, 0},
            {24, 10, 0}, {29, 10, 0}, {30, 10, 1}, {41, 10, 1}, {42, 10, 0},
            {167, 10, 0}, {168, 5, 0}, {191, 5, 0}, {192, 10, 0},
            {9911, 10, 0}, {9912, 5, 0}, {9935, 5, 0}, {9936, 10, 0}, {9983, 10, 0}, {9984, 10, 0}, {9999, 10, 1},
        };
        for (int[] d : dues) {
            StringToll x = States.of(20, 100, 0, 10, 1, 7);
            x.house(1, LAZY);
            States.toHour(x, d[0]);
            due.is("HOUR", x.now(6), d[0]);
            due.is("the DAY of HOUR " + d[0], x.asks(0, 0, 1), d[1]);
            due.is("the hour of HOUR " + d[0], x.asks(1, 0, 0), 7 * d[2]);
        }
    }

    private static void calls512() {
        due.says("An object is used for at most 512 calls after it has been made; what later calls answer is free.");
        StringToll x = new StringToll();
        for (int k = 1; k < 512; k++) {
            due.is("call " + k, x.waits(1), k);
        }
        due.is("call 512", x.now(6), 511);
        StringToll y = new StringToll();
        for (int k = 1; k < 512; k++) {
            y.undo();
        }
        due.is("511 were NO", y.status(1), 511);
    }

    private static void strings() {
        due.says("STRINGS 0 .. 4, as they come: a KIND, a LENGTH (1 .. 60).");
        StringToll x = new StringToll();
        int[][] told = {{5, 60}, {0, 1}, {4, 59}, {1, 2}, {3, 30}};
        for (int i = 0; i < 5; i++) {
            due.is("not there yet", x.of(i, 0), StringToll.BAD);
            due.is("the number", x.string(told[i][0], told[i][1]), i);
        }
        for (int i = 0; i < 5; i++) {
            due.is("KIND of " + i, x.of(i, 0), told[i][0]);
            due.is("LENGTH of " + i, x.of(i, 1), told[i][1]);
        }
        due.is("a sixth is never there", x.of(5, 0), StringToll.BAD);
        due.is("none ahead of the first", x.of(-1, 0), StringToll.BAD);
        due.is("a LENGTH of 0", new StringToll().string(0, 0), StringToll.BAD);
        due.is("a LENGTH of 61", new StringToll().string(0, 61), StringToll.BAD);
    }

    private static void houses() {
        due.says("TWO HOUSES, below (0) and above (1), each of a KIND (0 at first).");
        StringToll x = new StringToll();
        due.is("below at first", x.now(1), 0);
        due.is("above at first", x.now(2), 0);
        due.is("below", x.house(0, 5), 0);
        due.is("above", x.house(1, 4), 0);
        due.is("below is 5", x.now(1), 5);
        due.is("above is 4", x.now(2), 4);
        due.is("none below below", x.house(-1, 0), StringToll.BAD);
        due.is("none above above", x.house(2, 0), StringToll.BAD);
    }

    private static void line() {
        due.says("THE LINE: 1 .. 60 (20 at first).");
        StringToll x = new StringToll();
        due.is("at first", x.now(0), 20);
        due.is("0", x.province(0, 100), StringToll.BAD);
        due.is("61", x.province(61, 100), StringToll.BAD);
        due.is("it stays", x.now(0), 20);
        x.province(1, 100);
        due.is("the least", x.now(0), 1);
        x.province(60, 100);
        due.is("the greatest", x.now(0), 60);
    }

    private static void purse() {
        due.says("PURSE 0 .. 9999 (100 at first), HAUL, STAMPS (0 at first).");
        StringToll x = new StringToll();
        due.is("PURSE at first", x.now(3), 100);
        due.is("HAUL at first", x.now(4), 0);
        due.is("STAMPS at first", x.now(5), 0);
        due.is("-1", x.province(20, -1), StringToll.BAD);
        due.is("10000", x.province(20, 10000), StringToll.BAD);
        due.is("it stays", x.now(3), 100);
        x.province(20, 0);
        due.is("the least", x.now(3), 0);
        x.province(20, 9999);
        due.is("the greatest", x.now(3), 9999);
    }

    private static int shown(int kind, int length, int hour) {
        return States.of(20, 100, kind, length).asks(0, hour, 0);
    }

    private static void night() {
        due.says("KINDS of STRINGS, each under the one told, say how much one of LENGTH l SHOWS at hour h of a day "
            + "(NIGHT: h below 6, or 18 and more):");
        String nights = "NNNNNNddddddddddddNNNNNN";
        for (int h = 0; h < 24; h++) {
            boolean night = nights.charAt(h) == 'N';
            due.is("silk at " + h, shown(1, 9, h), night ? 0 : 9);
            due.is("black silk at " + h, shown(4, 9, h), night ? 0 : 5);
            due.is("plain at " + h, shown(0, 9, h), 9);
        }
    }

    private static void shows(int kind, int length, int byNight, int byDay) {
        due.is("kind " + kind + " of " + length + " by night", shown(kind, length, 0), byNight);
        due.is("kind " + kind + " of " + length + " by day", shown(kind, length, 12), byDay);
    }

    private static void kindsOfStrings() {
        due.says("0 PLAIN: l. 1 SILK (under PLAIN): as PLAIN, but 0 by NIGHT.");
        shows(0, 1, 1, 1);
        shows(0, 60, 60, 60);
        shows(1, 1, 0, 1);
        shows(1, 60, 0, 60);
        due.says("2 POND (under PLAIN): PLAIN, 10 at most. 3 KITE (under PLAIN): PLAIN and 5.");
        shows(2, 1, 1, 1);
        shows(2, 9, 9, 9);
        shows(2, 10, 10, 10);
        shows(2, 11, 10, 10);
        shows(2, 60, 10, 10);
        shows(3, 1, 6, 6);
        shows(3, 60, 65, 65);
        due.says("4 BLACK (under SILK): half (cut up) of SILK. 5 CHAIN (under KITE): twice KITE, 99 at most.");
        shows(4, 1, 0, 1);
        shows(4, 2, 0, 1);
        shows(4, 3, 0, 2);
        shows(4, 59, 0, 30);
        shows(4, 60, 0, 30);
        shows(5, 1, 12, 12);
        shows(5, 44, 98, 98);
        shows(5, 45, 99, 99);
        shows(5, 60, 99, 99);
        due.is("a seventh KIND", new StringToll().string(6, 1), StringToll.BAD);
        due.is("one ahead of PLAIN", new StringToll().string(-1, 1), StringToll.BAD);
    }

    /** Whether a house of the kind charges x for s on a day: MARKS tell it for each s and DAY. */
    private static void charges(int kind, int s, int day, int x) {
        StringToll at = new StringToll();
        at.mark(0, s, day, x);
        due.is("kind " + kind + " for " + s + " on " + day + ": " + x, at.kinds(0) >> kind & 1, 1);
        StringToll more = new StringToll();
        more.mark(0, s, day, x + 1);
        due.is("kind " + kind + " for " + s + " on " + day + ": not " + (x + 1), more.kinds(0) >> kind & 1, 0);
        if (x > 0) {
            StringToll less = new StringToll();
            less.mark(0, s, day, x - 1);
            due.is("kind " + kind + " for " + s + " on " + day + ": not " + (x - 1), less.kinds(0) >> kind & 1, 0);
        }
    }

    private static void plainHouses() {
        due.says("KINDS of HOUSES, each under the one told, say what one CHARGES for s that SHOW on DAY d: "
            + "0 PLAIN: half (cut up) of s.");
        charges(0, 0, 0, 0);
        charges(0, 1, 0, 1);
        charges(0, 2, 0, 1);
        charges(0, 3, 99, 2);
        charges(0, 98, 7, 49);
        charges(0, 99, 7, 50);
    }

    private static void kindsOfHouses() {
        due.says("1 STEEP (under PLAIN): PLAIN, and 1 for each whole 10 of s.");
        charges(1, 0, 0, 0);
        charges(1, 9, 0, 5);
        charges(1, 10, 0, 6);
        charges(1, 11, 0, 7);
        charges(1, 19, 0, 11);
        charges(1, 20, 0, 12);
        charges(1, 89, 0, 53);
        charges(1, 90, 0, 54);
        charges(1, 99, 0, 59);
        due.says("2 LAZY (under PLAIN): as PLAIN, but 0 on DAYS that 7 divides.");
        int[] days = {0, 7, 14, 91, 98};
        for (int day : days) {
            charges(LAZY, 99, day, 0);
            charges(LAZY, 99, day + 1, 50);
            if (day > 0) {
                charges(LAZY, 99, day - 1, 50);
            }
        }
        charges(LAZY, 0, 1, 0);
        charges(LAZY, 1, 1, 1);
        due.says("3 GREEDY (under PLAIN): PLAIN and 3, if s is 1 or more.");
        charges(3, 0, 0, 0);
        charges(3, 1, 0, 4);
        charges(3, 2, 0, 4);
        charges(3, 99, 0, 53);
        due.says("4 BIRD (under STEEP): STEEP, 25 at most.");
        charges(4, 0, 0, 0);
        charges(4, 40, 0, 24);
        charges(4, 41, 0, 25);
        charges(4, 42, 0, 25);
        charges(4, 43, 0, 25);
        charges(4, 99, 0, 25);
        due.says("5 STAMP (under GREEDY): GREEDY, made up to the next whole 5.");
        charges(5, 0, 0, 0);
        charges(5, 1, 0, 5);
        charges(5, 4, 0, 5);
        charges(5, 5, 0, 10);
        charges(5, 13, 0, 10);
        charges(5, 14, 0, 10);
        charges(5, 15, 0, 15);
        charges(5, 99, 0, 55);
        due.is("a seventh KIND", new StringToll().house(0, 6), StringToll.BAD);
        due.is("one ahead of PLAIN", new StringToll().house(0, -1), StringToll.BAD);
    }

    private static void cost() {
        due.says("COST of a STRING at an HOUR: what both HOUSES CHARGE for what it SHOWS.");
        StringToll x = States.of(20, 100, 5, 60, 1, 60);
        x.house(0, 1);
        x.house(1, 5);
        due.is("the dearest: 59 and 55", x.asks(0, 0, 1), 114);
        due.is("nothing shows, nothing is charged", x.asks(1, 0, 1), 0);
        x.house(0, LAZY);
        due.is("the house above alone", x.asks(0, 0, 1), 55);
        due.is("both on the next day", x.asks(0, 24, 1), 105);
        x.house(1, LAZY);
        due.is("neither", x.asks(0, 0, 1), 0);
    }

    private static void brings() {
        due.says("BRINGS: its LENGTH and 1, less THE LINE, if it is as long as that, or longer (SWEETS), else 0 (HAIL).");
        int[][] dues = {
            // THE LINE, LENGTH, what it brings
            {20, 18, 0}, {20, 19, 0}, {20, 20, 1}, {20, 21, 2}, {20, 60, 41}, {20, 1, 0},
            {1, 1, 1}, {1, 2, 2}, {1, 60, 60}, {60, 1, 0}, {60, 59, 0}, {60, 60, 1},
        };
        for (int[] d : dues) {
            StringToll x = States.of(d[0], 9999, 0, d[1]);
            due.is(d[1] + " over " + d[0], x.asks(0, 0, 2), d[2]);
            due.is(d[1] + " over " + d[0] + " is sent", x.sends(0), d[2]);
            due.is("HAUL", x.now(4), d[2]);
        }
    }

    private static void sending() {
        due.says("SENDING one: if PURSE holds its COST, that is paid, HAUL is by what it BRINGS more;");
        StringToll x = States.of(20, 41, 0, 40);
        due.is("one more than it costs", x.sends(0), 21);
        due.is("one is left", x.now(3), 1);
        due.is("HAUL", x.now(4), 21);
        x = States.of(20, 40, 0, 40);
        due.is("just what it costs", x.sends(0), 21);
        due.is("none is left", x.now(3), 0);
        Sight.refused(due, "one too few", () -> States.of(20, 39, 0, 40), y -> y.sends(0), -3, Sight.OF_NO);
        Sight.refused(due, "an empty PURSE", () -> States.of(20, 0, 0, 1), y -> y.sends(0), -3, Sight.OF_NO);
        x = States.of(20, 0, 1, 60);
        due.is("an empty PURSE for what costs nothing", x.sends(0), 41);
        due.is("it is empty still", x.now(3), 0);
        // what it costs is told by the HOUR that it is sent in, not by the next
        x = States.of(20, 0, 1, 60);
        States.toHour(x, 5);
        due.is("the last hour of the night", x.sends(0), 41);
        due.is("the first of the day", x.sends(0), StringToll.NO);
        States.toHour(x, 17);
        due.is("the last hour of the day", x.sends(0), StringToll.NO);
        States.toHour(x, 18);
        due.is("the first of the night", x.sends(0), 41);
        due.is("HAUL is by that more", x.now(4), 82);
        x = States.of(1, 9999, 2, 60);
        for (int k = 1; k <= 400; k++) {
            x.sends(0);
        }
        due.is("HAUL has no end that is told", x.now(4), 24000);
        due.is("PURSE", x.now(3), 9999 - 4000);
    }

    private static void stampsComeDown() {
        due.says("a STAMP comes down, if the HOUSE above CHARGED something; the HOUR is one more.");
        int[][] dues = {
            // KIND below, KIND above, KIND of the STRING, LENGTH, HOUR, STAMPS
            {0, 0, 0, 1, 0, 1}, {0, 0, 1, 60, 0, 0}, {0, 0, 1, 60, 5, 0}, {0, 0, 1, 1, 6, 1}, {0, 0, 1, 1, 17, 1},
            {0, 0, 1, 1, 18, 0}, {0, 2, 0, 60, 0, 0}, {0, 2, 0, 60, 23, 0}, {0, 2, 0, 1, 24, 1}, {0, 2, 0, 1, 167, 1},
            {0, 2, 0, 60, 168, 0}, {0, 2, 0, 60, 191, 0}, {0, 2, 0, 1, 192, 1}, {2, 0, 0, 1, 0, 1}, {2, 2, 0, 60, 0, 0},
            {5, 5, 1, 60, 0, 0}, {3, 3, 4, 60, 0, 0}, {3, 3, 4, 1, 6, 1},
        };
        for (int[] d : dues) {
            StringToll x = States.of(20, 9999, d[2], d[3]);
            x.house(0, d[0]);
            x.house(1, d[1]);
            States.toHour(x, d[4]);
            x.sends(0);
            String what = "houses " + d[0] + ", " + d[1] + ", string " + d[2] + " of " + d[3] + " in HOUR " + d[4];
            due.is(what + ": STAMPS", x.now(5), d[5]);
            due.is(what + ": the HOUR", x.now(6), d[4] + 1);
        }
    }

    private static void waiting() {
        due.says("WAITING: the HOUR alone.");
        for (int n : new int[] {1, 99}) {
            StringToll x = States.of(20, 100, 0, 30);
            x.sends(0);
            x.waits(n);
            int[] now = {20, 0, 0, 70, 11, 1, 1 + n};
            for (int what = 0; what < now.length; what++) {
                due.is("waits(" + n + "): now(" + what + ")", x.now(what), now[what]);
            }
        }
    }
}
