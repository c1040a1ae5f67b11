import java.util.ArrayList;
import java.util.List;

/**
 * Of each number of each call: the last one that is as told and the first one that is not, on both sides; where one
 * is not as told the call is refused as BAD, ahead of NO and FULL, and changes nothing but STATUS.
 */
public final class RangesTest {
    private static final Due due = new Due("RangesTest");
    /** Stands for the greatest number of a STRING that is there. */
    private static final int LAST_STRING = Integer.MIN_VALUE;
    /** The document tells no greatest number. */
    private static final int NO_END = Integer.MAX_VALUE;

    private interface Asked {
        long of(StringToll x, int[] n);
    }

    /** A call, what it answers to a number that is not as told, of each number the least and the greatest. */
    private record Face(String name, Asked asked, long bad, int... bounds) {
    }

    private static final Face[] CALLS = {
        new Face("province", (x, n) -> x.province(n[0], n[1]), -2, 1, 60, 0, 9999),
        new Face("house", (x, n) -> x.house(n[0], n[1]), -2, 0, 1, 0, 5),
        new Face("string", (x, n) -> x.string(n[0], n[1]), -2, 0, 5, 1, 60),
        new Face("type", (x, n) -> x.type(n[0]), -2, 0, 127),
        new Face("sends", (x, n) -> x.sends(n[0]), -2, 0, LAST_STRING),
        new Face("waits", (x, n) -> x.waits(n[0]), -2, 1, 99),
        new Face("of", (x, n) -> x.of(n[0], n[1]), -2, 0, LAST_STRING, 0, 1),
        new Face("now", (x, n) -> x.now(n[0]), -2, 0, 6),
        new Face("asks", (x, n) -> x.asks(n[0], n[1], n[2]), -2, 0, LAST_STRING, 0, 47, 0, 2),
        new Face("cheapest", (x, n) -> x.cheapest(n[0], n[1]), -2, 0, LAST_STRING, 0, 1),
        new Face("cuts", (x, n) -> x.cuts(n[0], n[1], n[2]), -2, 0, 5, 2, 60, 0, 1),
        new Face("row", (x, n) -> x.row(n[0]), -10, -2, NO_END),
        new Face("came", (x, n) -> x.came(n[0], n[1]), -2, 1, 60, 0, 60),
        new Face("lines", (x, n) -> x.lines(n[0]), -2, 0, 2),
        new Face("note", (x, n) -> x.note(n[0], n[1], n[2], n[3]), -2, 0, LAST_STRING, 1, 60, 0, 23, 0, 200),
        new Face("mark", (x, n) -> x.mark(n[0], n[1], n[2], n[3]), -2, 0, 1, 0, 99, 0, 99, 0, 200),
        new Face("forget", (x, n) -> x.forget(n[0]), -2, 0, 2),
        new Face("is", (x, n) -> x.is(n[0]), -2, 0, LAST_STRING),
        new Face("look", (x, n) -> x.look(n[0]), -2, 0, LAST_STRING),
        new Face("kinds", (x, n) -> x.kinds(n[0]), -2, 0, 1),
        new Face("ask", (x, n) -> x.ask(n[0]), -2, 0, 1),
        new Face("ends", (x, n) -> x.ends(n[0]), -10, -1, NO_END),
        new Face("scissors", (x, n) -> x.scissors(n[0]), -2, 0, 10),
        new Face("nights", (x, n) -> x.nights(n[0], n[1]), -2, 0, 999999, 0, 60),
        new Face("part", (x, n) -> x.part(n[0]), -2, 0, 1),
        new Face("image", (x, n) -> x.image(n[0]), -2, 0, 1),
        new Face("from", (x, n) -> x.from(n[0]), -2, 0, 1),
        new Face("status", (x, n) -> x.status(n[0]), -1, 0, 2),
        new Face("count", (x, n) -> x.count(n[0]), -2, 0, 5),
    };

    public static void main(String[] args) {
        for (Face call : CALLS) {
            bounds(call, "a new object", StringToll::new, 0);
            bounds(call, "one of three strings", States::some, 3);
            bounds(call, "a full one", States::full, 5);
        }
        due.end();
    }

    private static void bounds(Face call, String where, Sight.Maker maker, int strings) {
        for (int k = 0; k < call.bounds().length / 2; k++) {
            for (int wrong : wrongOnes(call, k, strings)) {
                for (int[] numbers : corners(call, strings)) {
                    numbers[k] = wrong;
                    String what = told(call, numbers) + " of " + where;
                    Sight.refused(due, what, maker, x -> call.asked().of(x, numbers), call.bad(), Sight.OF_BAD);
                }
            }
        }
        if (isThere(call, strings)) {
            for (int[] numbers : corners(call, strings)) {
                StringToll x = maker.make();
                int before = x.status(0);
                call.asked().of(x, numbers);
                due.is(told(call, numbers) + " of " + where + " is not BAD", x.status(0), before);
            }
        }
    }

    /** The first ones that are not as told, on both sides, and the farthest. */
    private static List<Integer> wrongOnes(Face call, int k, int strings) {
        int least = call.bounds()[2 * k];
        int most = greatest(call, k, strings);
        List<Integer> wrong = new ArrayList<>(List.of(least - 1, Integer.MIN_VALUE));
        if (most != NO_END) {
            wrong.add(most + 1);
            wrong.add(Integer.MAX_VALUE);
        }
        return wrong;
    }

    /** All rows of numbers that are the least or the greatest as told, each. */
    private static List<int[]> corners(Face call, int strings) {
        int size = call.bounds().length / 2;
        List<int[]> rows = new ArrayList<>();
        for (int pick = 0; pick < 1 << size; pick++) {
            int[] row = new int[size];
            for (int k = 0; k < size; k++) {
                row[k] = (pick >> k & 1) == 0 ? call.bounds()[2 * k] : greatest(call, k, strings);
            }
            rows.add(row);
        }
        return rows;
    }

    private static int greatest(Face call, int k, int strings) {
        int most = call.bounds()[2 * k + 1];
        return most == LAST_STRING ? strings - 1 : most;
    }

    /** Whether any number is as told: without a STRING none of a STRING is. */
    private static boolean isThere(Face call, int strings) {
        for (int bound : call.bounds()) {
            if (bound == LAST_STRING && strings == 0) {
                return false;
            }
        }
        return true;
    }

    private static String told(Face call, int[] numbers) {
        StringBuilder b = new StringBuilder(call.name()).append('(');
        for (int k = 0; k < numbers.length; k++) {
            b.append(k == 0 ? "" : ", ").append(numbers[k]);
        }
        return b.append(')').toString();
    }
}
