import java.util.ArrayList;
import java.util.List;

/** Holds what can be seen of an object ahead of a call against what can be seen behind it. */
final class Sight {
    static final int OF_BAD = 0;
    static final int OF_NO = 1;
    static final int OF_FULL = 2;

    /** Makes an object and brings it where the test wants it: each time the same. */
    interface Maker {
        StringToll make();
    }

    interface Call {
        long on(StringToll x);
    }

    private Sight() {
    }

    /** The call answers so, is counted once in STATUS, as this one of the three, and changes nothing else. */
    static void refused(Due due, String what, Maker maker, Call call, long answer, int which) {
        StringToll x = maker.make();
        due.is(what, call.on(x), answer);
        List<Long> before = all(maker.make());
        before.set(which, before.get(which) + 1);
        same(due, what + " is refused", all(x), before);
    }

    /** The call answers so, and changes nothing, STATUS neither. */
    static void leavesAll(Due due, String what, Maker maker, Call call, long answer) {
        StringToll x = maker.make();
        due.is(what, call.on(x), answer);
        same(due, what + " leaves all", all(x), all(maker.make()));
    }

    /** The call answers what it answers to another object made so, and changes nothing, STATUS neither. */
    static void leavesAll(Due due, String what, Maker maker, Call call) {
        leavesAll(due, what, maker, call, call.on(maker.make()));
    }

    /** Two objects that must be alike in all that can be seen. */
    static void alike(Due due, String what, Maker one, Maker other) {
        same(due, what, all(one.make()), all(other.make()));
    }

    private static void same(Due due, String what, List<Long> got, List<Long> want) {
        int k = 0;
        while (k < got.size() && k < want.size() && got.get(k).equals(want.get(k))) {
            k++;
        }
        due.is(what + ": sights up to the first that differs", k, Math.max(got.size(), want.size()));
    }

    /** STATUS comes first; looking spends the object: what may be undone is, the text is read, it goes on from images. */
    private static List<Long> all(StringToll x) {
        List<Long> seen = new ArrayList<>();
        for (int what = 0; what <= 2; what++) {
            seen.add((long) x.status(what));
        }
        seen.add(x.part(0));
        seen.add(x.part(1));
        addState(seen, x);
        seen.add((long) x.read());
        addState(seen, x);
        for (int i = 0; i <= 1; i++) {
            seen.add((long) x.from(i));
            addState(seen, x);
        }
        return seen;
    }

    private static void addState(List<Long> seen, StringToll x) {
        for (int what = 0; what <= 5; what++) {
            seen.add((long) x.count(what));
        }
        for (int what = 0; what <= 6; what++) {
            seen.add((long) x.now(what));
        }
        seen.add(x.digest());
        for (int k = x.count(4); k > 0; k--) {
            seen.add((long) x.undo());
            seen.add(x.digest());
        }
    }
}
