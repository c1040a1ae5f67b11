import java.lang.reflect.Method;
import java.util.Arrays;
import java.util.List;
import java.util.Random;

/** All promises: runs of calls by chance (the same at each run of the test), held against PlainModel. */
public final class ModelTest {
    private static final Due due = new Due("ModelTest");
    private static final int RUNS = 400;
    private static final int CALLS = 512;

    /** For each call, of each number the least and the greatest that is as told. */
    private static final Object[][] CALLS_AND_RANGES = {
        {"province", 1, 60, 0, 999}, {"house", 0, 1, 0, 5}, {"string", 0, 5, 1, 60}, {"type", 0, 127}, {"clear"},
        {"read"}, {"sends", 0, 4}, {"waits", 1, 99}, {"undo"}, {"of", 0, 4, 0, 1}, {"now", 0, 6},
        {"asks", 0, 4, 0, 47, 0, 2}, {"cheapest", 0, 4, 0, 1}, {"cuts", 0, 5, 2, 60, 0, 1}, {"row", -2, 5},
        {"came", 1, 60, 0, 60}, {"lines", 0, 2}, {"tries"}, {"note", 0, 4, 1, 60, 0, 23, 0, 200},
        {"mark", 0, 1, 0, 99, 0, 99, 0, 200}, {"forget", 0, 2}, {"is", 0, 4}, {"look", 0, 4}, {"kinds", 0, 1},
        {"ask", 0, 1}, {"ends", -1, 12}, {"scissors", 0, 10}, {"nights", 0, 999999, 0, 60}, {"part", 0, 1},
        {"image", 0, 1}, {"from", 0, 1}, {"status", 0, 2}, {"count", 0, 5}, {"digest"},
    };
    /** Calls that build come oftener than those that throw all away. */
    private static final List<String> OFTEN = List.of("string", "sends", "waits", "house", "undo", "row");
    private static final List<String> SELDOM = List.of("province", "read", "clear", "type", "forget", "from");

    private final StringToll toll = new StringToll();
    private final PlainModel model = new PlainModel();
    private final Random random;
    private final int run;
    private int calls;

    private ModelTest(int run) {
        this.run = run;
        random = new Random(run);
    }

    public static void main(String[] args) throws ReflectiveOperationException {
        for (int run = 0; run < RUNS; run++) {
            new ModelTest(run).play();
        }
        due.end();
    }

    private void play() throws ReflectiveOperationException {
        while (calls < CALLS) {
            int pick = random.nextInt(20);
            if (pick == 0 && calls + 150 < CALLS) {
                playText();
            } else if (pick == 1) {
                playTrueSight();
            } else {
                playAny();
            }
        }
    }

    private void playAny() throws ReflectiveOperationException {
        Object[] row = CALLS_AND_RANGES[random.nextInt(CALLS_AND_RANGES.length)];
        if (random.nextInt(3) == 0) {
            String name = OFTEN.get(random.nextInt(OFTEN.size()));
            row = Arrays.stream(CALLS_AND_RANGES).filter(r -> r[0].equals(name)).findFirst().orElseThrow();
        }
        if (SELDOM.contains(row[0]) && random.nextInt(6) != 0) {
            return;
        }
        Integer[] numbers = new Integer[(row.length - 1) / 2];
        for (int k = 0; k < numbers.length; k++) {
            numbers[k] = number((Integer) row[1 + 2 * k], (Integer) row[2 + 2 * k]);
        }
        call((String) row[0], numbers);
    }

    private int number(int least, int most) {
        switch (random.nextInt(40)) {
            case 0:
                return least - 1;
            case 1:
                return most + 1;
            case 2:
                return random.nextInt();
            case 3:
            case 4:
                return least;
            case 5:
            case 6:
                return most;
            default:
                return least + random.nextInt(most - least + 1);
        }
    }

    /** Tells what would be seen of some line, kind or house, so that some fit. */
    private void playTrueSight() throws ReflectiveOperationException {
        int l = 1 + random.nextInt(60);
        switch (random.nextInt(3)) {
            case 0:
                int line = 1 + random.nextInt(60);
                call("came", l, random.nextBoolean() ? 0 : Math.max(0, l + 1 - line));
                break;
            case 1:
                int[] shown = {0, l, l + 5, Math.min(l, 10), (l + 1) / 2, Math.min(99, 2 * l + 10)};
                call("note", random.nextInt(5), l, random.nextInt(24), shown[random.nextInt(6)]);
                break;
            default:
                int[] charged = {0, (l + 1) / 2, (l + 1) / 2 + l / 10, (l + 1) / 2 + 3, Math.min(25, (l + 1) / 2 + l / 10)};
                call("mark", random.nextInt(2), l, random.nextInt(100), charged[random.nextInt(5)]);
        }
    }

    private void playText() throws ReflectiveOperationException {
        call("clear");
        String text = text();
        for (int i = 0; i < text.length(); i++) {
            call("type", (int) text.charAt(i));
        }
        call("read");
        call("digest");
    }

    private String text() {
        StringBuilder b = new StringBuilder("province " + (1 + random.nextInt(60)) + ";");
        int items = random.nextInt(12);
        for (int k = 0; k < items; k++) {
            switch (random.nextInt(6)) {
                case 0:
                    b.append("house " + random.nextInt(2) + " " + random.nextInt(6) + ";");
                    break;
                case 1:
                case 2:
                    b.append("string " + random.nextInt(6) + " " + (1 + random.nextInt(60)) + ";");
                    break;
                case 3:
                    b.append("purse " + random.nextInt(20) + ";");
                    break;
                case 4:
                    b.append("send " + random.nextInt(3) + ";");
                    break;
                default:
                    b.append("wait " + (1 + random.nextInt(99)) + ";");
            }
        }
        for (int k = random.nextInt(3); k > 0; k--) {
            disturb(b);
        }
        return b.substring(0, Math.min(b.length(), 120));
    }

    private void disturb(StringBuilder b) {
        String signs = " ;0159aeps-\u0000";
        int at = random.nextInt(b.length());
        char sign = signs.charAt(random.nextInt(signs.length()));
        switch (random.nextInt(5)) {
            case 0:
                b.deleteCharAt(at);
                break;
            case 1:
                b.setCharAt(at, sign);
                break;
            case 2:
                b.setLength(at + 1);
                break;
            default:
                b.insert(at, sign);
        }
    }

    private void call(String name, Integer... numbers) throws ReflectiveOperationException {
        calls++;
        Class<?>[] types = new Class<?>[numbers.length];
        Arrays.fill(types, int.class);
        Method dueFrom = PlainModel.class.getDeclaredMethod(name, types);
        Method asked = StringToll.class.getDeclaredMethod(name, types);
        long want = ((Number) dueFrom.invoke(model, (Object[]) numbers)).longValue();
        long got = ((Number) asked.invoke(toll, (Object[]) numbers)).longValue();
        due.is("run " + run + ", call " + calls + ": " + name + Arrays.toString(numbers), got, want);
        if (calls % 8 == 0) {
            due.is("run " + run + ", behind call " + calls + ": digest", toll.digest(), model.digest());
        }
    }
}
