/**
 * A province where string is charged for at both ends, by what it shows: what each string costs and brings,
 * and what can be told of the line and of the kinds by what was seen.
 *
 * <p>No call makes an object: every row that a call works in is made with the StringToll and used again.
 */
public final class StringToll {
    public static final int NONE = -1, BAD = -2, NO = -3, FULL = -4;

    private static final int MOST_LENGTH = 60;
    private static final int MOST_STRINGS = 5;
    private static final int MOST_SEEN = 6;
    private static final int MOST_UNDONE = 8;
    private static final int MOST_PURSE = 9999;
    private static final int LAST_HOUR = 9999;
    private static final int FIRST_LINE = 20;
    private static final int FIRST_PURSE = 100;
    private static final int DAY = 24;
    private static final int HOURS_AHEAD = 47;
    private static final int MOST_SHOWN = 99;
    private static final int MOST_TOLD = 200;
    private static final int MOST_WAIT = 99;
    private static final int NOT_SO_MANY = -5;
    private static final int BAD_PLACE = -10;

    private Province here = new Province();
    /** The text is read into this one, so that a fault leaves all as it was. */
    private Province draft = new Province();
    private final Province image0 = new Province();
    private final Province image1 = new Province();
    private boolean kept0;
    private boolean kept1;
    private final Text text = new Text();
    private final RowSearch rows = new RowSearch();
    private final Guess guess = new Guess();
    private final TwoEnds twoEnds = new TwoEnds();
    private long above = 0;
    private long below = 1;
    private int refusedBad;
    private int refusedNo;
    private int refusedFull;

    public StringToll() {
    }

    // ---- a province

    public int province(int line, int n) {
        if (!within(line, 1, MOST_LENGTH) || !within(n, 0, MOST_PURSE)) {
            return refuseBad();
        }
        int before = here.strings.size;
        here.start(line, n);
        return before;
    }

    public int house(int w, int kind) {
        if (!within(w, 0, 1) || !Kinds.known(kind)) {
            return refuseBad();
        }
        int before = here.houseKind(w);
        here.setHouse(w, kind);
        here.past.wipe();
        return before;
    }

    public int string(int kind, int length) {
        if (!Kinds.known(kind) || !within(length, 1, MOST_LENGTH)) {
            return refuseBad();
        }
        if (here.strings.isFull()) {
            return refuseFull();
        }
        here.strings.put(kind, length, 0, 0);
        here.past.wipe();
        return here.strings.size - 1;
    }

    public int type(int c) {
        if (!within(c, 0, 127)) {
            return refuseBad();
        }
        if (!text.put(c)) {
            return refuseFull();
        }
        return text.length;
    }

    public int clear() {
        int before = text.length;
        text.length = 0;
        return before;
    }

    public int read() {
        int items = text.readInto(draft);
        if (items >= 0) {
            Province old = here;
            here = draft;
            draft = old;
        }
        return items;
    }

    // ---- hours

    public int sends(int i) {
        if (!here.has(i)) {
            return refuseBad();
        }
        if (here.hour >= LAST_HOUR || here.costIn(i, 0) > here.purse) {
            return refuseNo();
        }
        here.remember();
        here.sendString(i);
        return here.bringing(i);
    }

    public int waits(int n) {
        if (!within(n, 1, MOST_WAIT)) {
            return refuseBad();
        }
        here.remember();
        here.waitHours(n);
        return here.hour;
    }

    public int undo() {
        if (!here.stepBack()) {
            return refuseNo();
        }
        return here.hour;
    }

    public int of(int i, int what) {
        if (!here.has(i) || !within(what, 0, 1)) {
            return refuseBad();
        }
        return what == 0 ? here.kindOf(i) : here.lengthOf(i);
    }

    public int now(int what) {
        if (!within(what, 0, 6)) {
            return refuseBad();
        }
        return here.figure(what);
    }

    // ---- what it costs

    public int asks(int i, int m, int what) {
        if (!here.has(i) || !within(m, 0, HOURS_AHEAD) || !within(what, 0, 2)) {
            return refuseBad();
        }
        if (what == 0) {
            return here.shownIn(i, m);
        }
        return what == 1 ? here.costIn(i, m) : here.bringing(i);
    }

    public int cheapest(int i, int what) {
        if (!here.has(i) || !within(what, 0, 1)) {
            return refuseBad();
        }
        int best = 0;
        int least = here.costIn(i, 0);
        for (int m = 1; m <= HOURS_AHEAD; m++) {
            int cost = here.costIn(i, m);
            if (cost < least) {
                least = cost;
                best = m;
            }
        }
        return what == 0 ? best : least;
    }

    public int cuts(int kind, int l, int what) {
        if (!Kinds.known(kind) || !within(l, 2, MOST_LENGTH) || !within(what, 0, 1)) {
            return refuseBad();
        }
        int best = 1;
        int least = here.costOfCut(kind, 1, l - 1);
        for (int a = 2; a < l; a++) {
            int cost = here.costOfCut(kind, a, l - a);
            if (cost < least) {
                least = cost;
                best = a;
            }
        }
        return what == 0 ? least : best;
    }

    public int row(int i) {
        if (i < -2) {
            refuseBad();
            return BAD_PLACE;
        }
        rows.search(here);
        if (i == -2) {
            return rows.bestHaul;
        }
        if (i == -1) {
            return rows.bestLength;
        }
        return rows.isSent(i) ? rows.sent(i) : NOT_SO_MANY;
    }

    // ---- where the line lies

    public int came(int l, int x) {
        if (!within(l, 1, MOST_LENGTH) || !within(x, 0, MOST_LENGTH)) {
            return refuseBad();
        }
        return keep(here.came, l, x, 0, 0);
    }

    public int lines(int what) {
        if (!within(what, 0, 2)) {
            return refuseBad();
        }
        if (what == 0) {
            return guess.linesThatFit(here);
        }
        return what == 1 ? guess.leastLine(here) : guess.greatestLine(here);
    }

    public int tries() {
        return guess.nextLength(here);
    }

    public int note(int i, int l, int h, int x) {
        if (!here.has(i) || !within(l, 1, MOST_LENGTH) || !within(h, 0, DAY - 1) || !within(x, 0, MOST_TOLD)) {
            return refuseBad();
        }
        return keep(here.notes, i, l, h, x);
    }

    public int mark(int w, int s, int d, int x) {
        if (!within(w, 0, 1) || !within(s, 0, MOST_SHOWN) || !within(d, 0, 99) || !within(x, 0, MOST_TOLD)) {
            return refuseBad();
        }
        return keep(here.marks, w, s, d, x);
    }

    public int forget(int what) {
        if (!within(what, 0, 2)) {
            return refuseBad();
        }
        Records seen = what == 0 ? here.came : what == 1 ? here.notes : here.marks;
        int before = seen.size;
        seen.wipe();
        return before;
    }

    public int is(int i) {
        if (!here.has(i)) {
            return refuseBad();
        }
        return guess.stringKinds(here, i);
    }

    public int look(int i) {
        if (!here.has(i)) {
            return refuseBad();
        }
        return guess.nextHour(here, i);
    }

    public int kinds(int w) {
        if (!within(w, 0, 1)) {
            return refuseBad();
        }
        return guess.houseKinds(here, w);
    }

    public int ask(int w) {
        if (!within(w, 0, 1)) {
            return refuseBad();
        }
        return guess.nextQuestion(here, w);
    }

    public int ends(int k) {
        if (k < NONE) {
            refuseBad();
            return BAD_PLACE;
        }
        twoEnds.reckon(here);
        if (k == NONE) {
            return twoEnds.pairs();
        }
        int pair = twoEnds.pair(k);
        return pair == NONE ? NOT_SO_MANY : pair;
    }

    public int scissors(int c) {
        if (!within(c, 0, 10)) {
            return refuseBad();
        }
        int tenths = 0;
        for (int i = 0; i < here.strings.size; i++) {
            int cut = Kinds.brought(here.lengthOf(i) / 2, here.line);
            tenths += c * cut + (10 - c) * here.bringing(i);
        }
        setFraction(tenths);
        return 1;
    }

    public int nights(int seed, int n) {
        if (!within(seed, 0, 999999) || !within(n, 0, 60)) {
            return refuseBad();
        }
        long x = seed;
        int purse = here.purse;
        int haul = 0;
        for (int m = 0; m < n; m++) {
            x = (x * 1103515245L + 12345L) % 2147483648L;
            int i = (int) (x / 65536L % 6L);
            if (here.has(i) && here.costIn(i, m) <= purse) {
                purse -= here.costIn(i, m);
                haul += here.bringing(i);
            }
        }
        return haul;
    }

    // ---- what there is

    public long part(int what) {
        if (!within(what, 0, 1)) {
            return refuseBad();
        }
        return what == 0 ? above : below;
    }

    public int image(int i) {
        if (!within(i, 0, 1)) {
            return refuseBad();
        }
        if (i == 0) {
            image0.copyFrom(here);
            kept0 = true;
        } else {
            image1.copyFrom(here);
            kept1 = true;
        }
        return 1;
    }

    public int from(int i) {
        if (!within(i, 0, 1)) {
            return refuseBad();
        }
        if (i == 0 ? !kept0 : !kept1) {
            return refuseNo();
        }
        here.copyFrom(i == 0 ? image0 : image1);
        return 1;
    }

    public int status(int what) {
        switch (what) {
            case 0:
                return refusedBad;
            case 1:
                return refusedNo;
            case 2:
                return refusedFull;
            default:
                refuseBad();
                return -1;
        }
    }

    public int count(int what) {
        if (!within(what, 0, 5)) {
            return refuseBad();
        }
        return howMany(what);
    }

    public long digest() {
        long h = 1579;
        for (int what = 0; what <= 5; what++) {
            h = 31 * h + howMany(what);
        }
        for (int what = 0; what <= 6; what++) {
            h = 31 * h + here.figure(what);
        }
        h = here.strings.digestOn(h, 2);
        h = here.came.digestOn(h, 2);
        h = here.notes.digestOn(h, 4);
        h = here.marks.digestOn(h, 4);
        h = 31 * h + above;
        return 31 * h + below;
    }

    private static boolean within(int x, int least, int most) {
        return x >= least && x <= most;
    }

    private int refuseBad() {
        refusedBad++;
        return BAD;
    }

    private int refuseNo() {
        refusedNo++;
        return NO;
    }

    private int refuseFull() {
        refusedFull++;
        return FULL;
    }

    private int keep(Records seen, int a, int b, int c, int d) {
        if (seen.isFull()) {
            return refuseFull();
        }
        seen.put(a, b, c, d);
        return seen.size;
    }

    private int howMany(int what) {
        switch (what) {
            case 0:
                return here.strings.size;
            case 1:
                return here.came.size;
            case 2:
                return here.notes.size;
            case 3:
                return here.marks.size;
            case 4:
                return here.past.size;
            default:
                return text.length;
        }
    }

    private void setFraction(int tenths) {
        int common = 1;
        for (int d = 2; d <= 10; d++) {
            if (tenths % d == 0 && 10 % d == 0) {
                common = d;
            }
        }
        above = tenths / common;
        below = 10 / common;
    }

    /** What STRINGS of each KIND show and bring, and what HOUSES of each KIND charge. */
    private static final class Kinds {
        static final int ALL = 6;

        static boolean known(int kind) {
            return within(kind, 0, ALL - 1);
        }

        /** The hour may be one of any day. */
        static int shown(int kind, int length, int hour) {
            int h = hour % DAY;
            int silk = h < 6 || h >= 18 ? 0 : length;
            int kite = length + 5;
            switch (kind) {
                case 1:
                    return silk;
                case 2:
                    return Math.min(length, 10);
                case 3:
                    return kite;
                case 4:
                    return (silk + 1) / 2;
                case 5:
                    return Math.min(2 * kite, MOST_SHOWN);
                default:
                    return length;
            }
        }

        static int charged(int kind, int shown, int day) {
            int plain = (shown + 1) / 2;
            int steep = plain + shown / 10;
            int greedy = shown >= 1 ? plain + 3 : plain;
            switch (kind) {
                case 1:
                    return steep;
                case 2:
                    return day % 7 == 0 ? 0 : plain;
                case 3:
                    return greedy;
                case 4:
                    return Math.min(steep, 25);
                case 5:
                    return (greedy + 4) / 5 * 5;
                default:
                    return plain;
            }
        }

        static int brought(int length, int line) {
            return length >= line ? length + 1 - line : 0;
        }
    }

    /** Rows of up to four numbers, as they come. */
    private static final class Records {
        private static final int WIDTH = 4;
        private static final int ROOM = 8;

        private final int[] cells = new int[ROOM * WIDTH];
        private final int most;
        private int size;

        Records(int most) {
            this.most = Math.min(most, ROOM);
        }

        boolean isFull() {
            return size >= most;
        }

        void wipe() {
            size = 0;
        }

        void put(int a, int b, int c, int d) {
            if (isFull()) {
                return;
            }
            int at = size * WIDTH;
            cells[at] = a;
            cells[at + 1] = b;
            cells[at + 2] = c;
            cells[at + 3] = d;
            size++;
        }

        int cell(int row, int column) {
            if (row < 0 || row >= size || column < 0 || column >= WIDTH) {
                return 0;
            }
            return cells[row * WIDTH + column];
        }

        void dropFirst() {
            if (size == 0) {
                return;
            }
            for (int at = WIDTH; at < size * WIDTH; at++) {
                cells[at - WIDTH] = cells[at];
            }
            size--;
        }

        void dropLast() {
            if (size > 0) {
                size--;
            }
        }

        void copyFrom(Records other) {
            System.arraycopy(other.cells, 0, cells, 0, ROOM * WIDTH);
            size = other.size;
        }

        long digestOn(long before, int columns) {
            long h = before;
            for (int row = 0; row < size; row++) {
                for (int column = 0; column < columns; column++) {
                    h = 31 * h + cell(row, column);
                }
            }
            return h;
        }
    }

    /** All that an image keeps. */
    private static final class Province {
        private int line = FIRST_LINE;
        private int houseBelow;
        private int houseAbove;
        private int purse = FIRST_PURSE;
        private int haul;
        private int stamps;
        private int hour;
        /** KIND, LENGTH. */
        private final Records strings = new Records(MOST_STRINGS);
        /** LENGTH, what came down. */
        private final Records came = new Records(MOST_SEEN);
        /** STRING, LENGTH, hour, what it showed. */
        private final Records notes = new Records(MOST_SEEN);
        /** HOUSE, what showed, DAY, what it charged. */
        private final Records marks = new Records(MOST_SEEN);
        /** PURSE, HAUL, STAMPS, HOUR, each as ahead of what may be undone. */
        private final Records past = new Records(MOST_UNDONE);

        void start(int newLine, int newPurse) {
            line = newLine;
            purse = newPurse;
            houseBelow = 0;
            houseAbove = 0;
            haul = 0;
            stamps = 0;
            hour = 0;
            strings.wipe();
            came.wipe();
            notes.wipe();
            marks.wipe();
            past.wipe();
        }

        void copyFrom(Province other) {
            line = other.line;
            houseBelow = other.houseBelow;
            houseAbove = other.houseAbove;
            purse = other.purse;
            haul = other.haul;
            stamps = other.stamps;
            hour = other.hour;
            strings.copyFrom(other.strings);
            came.copyFrom(other.came);
            notes.copyFrom(other.notes);
            marks.copyFrom(other.marks);
            past.copyFrom(other.past);
        }

        int figure(int what) {
            switch (what) {
                case 0:
                    return line;
                case 1:
                    return houseBelow;
                case 2:
                    return houseAbove;
                case 3:
                    return purse;
                case 4:
                    return haul;
                case 5:
                    return stamps;
                default:
                    return hour;
            }
        }

        int houseKind(int w) {
            return w == 0 ? houseBelow : houseAbove;
        }

        void setHouse(int w, int kind) {
            if (w == 0) {
                houseBelow = kind;
            } else {
                houseAbove = kind;
            }
        }

        boolean has(int i) {
            return within(i, 0, strings.size - 1);
        }

        int kindOf(int i) {
            return strings.cell(i, 0);
        }

        int lengthOf(int i) {
            return strings.cell(i, 1);
        }

        int shownIn(int i, int hours) {
            return Kinds.shown(kindOf(i), lengthOf(i), hour + hours);
        }

        int costIn(int i, int hours) {
            return tollOn(shownIn(i, hours), hour + hours);
        }

        int costOfCut(int kind, int a, int b) {
            return tollOn(Kinds.shown(kind, a, hour), hour) + tollOn(Kinds.shown(kind, b, hour), hour);
        }

        int bringing(int i) {
            return Kinds.brought(lengthOf(i), line);
        }

        /** Whether it was paid; nothing to undo is kept, as a text that is read leaves none. */
        boolean sendString(int i) {
            int shown = shownIn(i, 0);
            int cost = tollOn(shown, hour);
            if (cost > purse) {
                return false;
            }
            if (Kinds.charged(houseAbove, shown, hour / DAY) > 0) {
                stamps++;
            }
            purse -= cost;
            haul += bringing(i);
            hour++;
            return true;
        }

        void waitHours(int n) {
            hour = Math.min(hour + n, LAST_HOUR);
        }

        void remember() {
            if (past.isFull()) {
                past.dropFirst();
            }
            past.put(purse, haul, stamps, hour);
        }

        boolean stepBack() {
            int last = past.size - 1;
            if (last < 0) {
                return false;
            }
            purse = past.cell(last, 0);
            haul = past.cell(last, 1);
            stamps = past.cell(last, 2);
            hour = past.cell(last, 3);
            past.dropLast();
            return true;
        }

        private int tollOn(int shown, int atHour) {
            int day = atHour / DAY;
            return Kinds.charged(houseBelow, shown, day) + Kinds.charged(houseAbove, shown, day);
        }
    }

    /** THE TEXT, and the province that it tells. */
    private static final class Text {
        private static final int ROOM = 150;
        private static final int END = 0, WORD = 1, NUMBER = 2, STOP = 3, BLANK = 4, STRAY = 5;

        private final byte[] bytes = new byte[ROOM];
        private int length;
        /** Where the token begins that is looked at, where the next one may begin, what it is. */
        private int start;
        private int next;
        private int token;
        private int number;

        boolean put(int c) {
            if (!within(length, 0, ROOM - 1)) {
                return false;
            }
            bytes[length] = (byte) c;
            length++;
            return true;
        }

        /** How many items; -10 less the fault, and then the province is in disorder. */
        int readInto(Province p) {
            next = 0;
            if (!readFirst(p)) {
                return BAD_PLACE - start;
            }
            int items = 1;
            advance();
            while (token != END && items <= ROOM) {
                if (!readItem(p) || !stops()) {
                    return BAD_PLACE - start;
                }
                items++;
                advance();
            }
            return items;
        }

        private boolean readFirst(Province p) {
            advance();
            if (!isWord("province") || !takeNumber(1, MOST_LENGTH)) {
                return false;
            }
            p.start(number, FIRST_PURSE);
            return stops();
        }

        private boolean readItem(Province p) {
            if (isWord("house")) {
                return readHouse(p);
            }
            if (isWord("string")) {
                return !p.strings.isFull() && readString(p);
            }
            if (isWord("purse")) {
                return readPurse(p);
            }
            if (isWord("send")) {
                return takeNumber(0, p.strings.size - 1) && p.sendString(number);
            }
            return isWord("wait") && readWait(p);
        }

        private boolean readHouse(Province p) {
            if (!takeNumber(0, 1)) {
                return false;
            }
            int w = number;
            if (!takeNumber(0, Kinds.ALL - 1)) {
                return false;
            }
            p.setHouse(w, number);
            return true;
        }

        private boolean readString(Province p) {
            if (!takeNumber(0, Kinds.ALL - 1)) {
                return false;
            }
            int kind = number;
            if (!takeNumber(1, MOST_LENGTH)) {
                return false;
            }
            p.strings.put(kind, number, 0, 0);
            return true;
        }

        private boolean readPurse(Province p) {
            if (!takeNumber(0, 99)) {
                return false;
            }
            p.purse = 100 * number;
            return true;
        }

        private boolean readWait(Province p) {
            if (!takeNumber(1, MOST_WAIT)) {
                return false;
            }
            p.waitHours(number);
            return true;
        }

        private boolean takeNumber(int least, int most) {
            advance();
            return token == NUMBER && within(number, least, most);
        }

        private boolean stops() {
            advance();
            return token == STOP;
        }

        private boolean isWord(String word) {
            if (token != WORD || next - start != word.length() || next > ROOM) {
                return false;
            }
            for (int i = 0; i < word.length(); i++) {
                if (bytes[start + i] != word.charAt(i)) {
                    return false;
                }
            }
            return true;
        }

        private void advance() {
            while (next < length && tokenAt(next) == BLANK) {
                next++;
            }
            start = next;
            token = tokenAt(start);
            boolean isRun = token == WORD || token == NUMBER;
            next = Math.min(next + 1, length);
            while (isRun && next < length && tokenAt(next) == token) {
                next++;
            }
            if (token == NUMBER) {
                takeFigures();
            }
        }

        private void takeFigures() {
            number = 0;
            if (next - start > 2) {
                token = STRAY;
                return;
            }
            for (int at = start; at < next && at < ROOM; at++) {
                number = 10 * number + bytes[at] - '0';
            }
        }

        /** The token that the byte there begins or goes on with. */
        private int tokenAt(int at) {
            if (at < 0 || at >= length || at >= ROOM) {
                return END;
            }
            int c = bytes[at];
            if (c >= 'a' && c <= 'z') {
                return WORD;
            }
            if (c >= '0' && c <= '9') {
                return NUMBER;
            }
            return c == ';' ? STOP : c == ' ' ? BLANK : STRAY;
        }
    }

    /** The row of sendings that brings most. */
    private static final class RowSearch {
        private final int[] costs = new int[MOST_STRINGS * MOST_STRINGS];
        private final int[] path = new int[MOST_STRINGS];
        private final int[] best = new int[MOST_STRINGS];
        private int bestLength;
        private int bestHaul;

        void search(Province p) {
            for (int depth = 0; depth < MOST_STRINGS; depth++) {
                for (int i = 0; i < p.strings.size && i < MOST_STRINGS; i++) {
                    costs[depth * MOST_STRINGS + i] = p.costIn(i, depth);
                }
            }
            bestLength = 0;
            bestHaul = 0;
            extend(this, p, 0, p.purse, 0);
        }

        boolean isSent(int i) {
            return within(i, 0, Math.min(bestLength, MOST_STRINGS) - 1);
        }

        int sent(int i) {
            return isSent(i) ? best[i] : NONE;
        }

        /** Rows are met in the order that the document tells, so only a greater haul takes the place of the best. */
        private static void extend(RowSearch s, Province p, int depth, int purse, int haul) {
            if (haul > s.bestHaul) {
                s.keepPath(depth, haul);
            }
            if (!within(depth, 0, MOST_STRINGS - 1)) {
                return;
            }
            for (int i = 0; i < p.strings.size && i < MOST_STRINGS; i++) {
                int cost = s.costs[depth * MOST_STRINGS + i];
                if (cost <= purse && !s.isOnPath(i, depth)) {
                    s.path[depth] = i;
                    extend(s, p, depth + 1, purse - cost, haul + p.bringing(i));
                }
            }
        }

        private void keepPath(int depth, int haul) {
            bestHaul = haul;
            bestLength = depth;
            for (int k = 0; k < depth && k < MOST_STRINGS; k++) {
                best[k] = path[k];
            }
        }

        private boolean isOnPath(int i, int depth) {
            for (int k = 0; k < depth && k < MOST_STRINGS; k++) {
                if (path[k] == i) {
                    return true;
                }
            }
            return false;
        }
    }

    /** What fits all that was seen, and the next thing to see. */
    private static final class Guess {
        private static final int MOST_QUESTION = 100 + MOST_SHOWN;

        private final int[] answers = new int[Kinds.ALL];
        private int answered;

        int linesThatFit(Province p) {
            int fitting = 0;
            for (int line = 1; line <= MOST_LENGTH; line++) {
                if (fits(p, line)) {
                    fitting++;
                }
            }
            return fitting;
        }

        int leastLine(Province p) {
            for (int line = 1; line <= MOST_LENGTH; line++) {
                if (fits(p, line)) {
                    return line;
                }
            }
            return NONE;
        }

        int greatestLine(Province p) {
            for (int line = MOST_LENGTH; line >= 1; line--) {
                if (fits(p, line)) {
                    return line;
                }
            }
            return NONE;
        }

        /** Lines up to a length bring each another number by it, so only those beyond it, hail all, are alike. */
        int nextLength(Province p) {
            int beyond = linesThatFit(p);
            int best = NONE;
            int fewest = beyond + 1;
            for (int length = 1; length <= MOST_LENGTH && fewest > 1; length++) {
                if (fits(p, length)) {
                    beyond--;
                }
                int most = Math.max(beyond, 1);
                if (most < fewest) {
                    fewest = most;
                    best = length;
                }
            }
            return best;
        }

        int stringKinds(Province p, int i) {
            int bits = 0;
            for (int kind = 0; kind < Kinds.ALL; kind++) {
                if (notesFit(p, i, kind)) {
                    bits |= 1 << kind;
                }
            }
            return bits;
        }

        int nextHour(Province p, int i) {
            int bits = stringKinds(p, i);
            int best = NONE;
            int fewest = Kinds.ALL + 1;
            for (int h = 0; h < DAY && bits != 0; h++) {
                answered = 0;
                for (int kind = 0; kind < Kinds.ALL; kind++) {
                    if ((bits >> kind & 1) == 1) {
                        putAnswer(Kinds.shown(kind, p.lengthOf(i), h));
                    }
                }
                int most = mostAlike();
                if (most < fewest) {
                    fewest = most;
                    best = h;
                }
            }
            return best;
        }

        int houseKinds(Province p, int w) {
            int bits = 0;
            for (int kind = 0; kind < Kinds.ALL; kind++) {
                if (marksFit(p, w, kind)) {
                    bits |= 1 << kind;
                }
            }
            return bits;
        }

        int nextQuestion(Province p, int w) {
            int bits = houseKinds(p, w);
            int best = NONE;
            int fewest = Kinds.ALL + 1;
            for (int question = 0; question <= MOST_QUESTION && bits != 0; question++) {
                answered = 0;
                for (int kind = 0; kind < Kinds.ALL; kind++) {
                    if ((bits >> kind & 1) == 1) {
                        putAnswer(Kinds.charged(kind, question % 100, question / 100));
                    }
                }
                int most = mostAlike();
                if (most < fewest) {
                    fewest = most;
                    best = question;
                }
            }
            return best;
        }

        private boolean fits(Province p, int line) {
            for (int k = 0; k < p.came.size; k++) {
                if (Kinds.brought(p.came.cell(k, 0), line) != p.came.cell(k, 1)) {
                    return false;
                }
            }
            return true;
        }

        private boolean notesFit(Province p, int i, int kind) {
            for (int k = 0; k < p.notes.size; k++) {
                if (p.notes.cell(k, 0) == i
                        && Kinds.shown(kind, p.notes.cell(k, 1), p.notes.cell(k, 2)) != p.notes.cell(k, 3)) {
                    return false;
                }
            }
            return true;
        }

        private boolean marksFit(Province p, int w, int kind) {
            for (int k = 0; k < p.marks.size; k++) {
                if (p.marks.cell(k, 0) == w
                        && Kinds.charged(kind, p.marks.cell(k, 1), p.marks.cell(k, 2)) != p.marks.cell(k, 3)) {
                    return false;
                }
            }
            return true;
        }

        private void putAnswer(int answer) {
            if (within(answered, 0, Kinds.ALL - 1)) {
                answers[answered] = answer;
                answered++;
            }
        }

        private int mostAlike() {
            int most = 0;
            for (int a = 0; a < answered && a < Kinds.ALL; a++) {
                int alike = 1;
                for (int b = 0; b < a; b++) {
                    if (answers[b] == answers[a]) {
                        alike++;
                    }
                }
                most = Math.max(most, alike);
            }
            return most;
        }
    }

    /** Two ends that lay a toll of their own choice, and the pairs of KINDS that rest. */
    private static final class TwoEnds {
        private final int[] toBelow = new int[Kinds.ALL * Kinds.ALL];
        private final int[] toAbove = new int[Kinds.ALL * Kinds.ALL];

        void reckon(Province p) {
            for (int i = 0; i < Kinds.ALL; i++) {
                for (int j = 0; j < Kinds.ALL; j++) {
                    reckonPair(p, i, j);
                }
            }
        }

        int pairs() {
            int resting = 0;
            for (int i = 0; i < Kinds.ALL; i++) {
                for (int j = 0; j < Kinds.ALL; j++) {
                    if (rests(i, j)) {
                        resting++;
                    }
                }
            }
            return resting;
        }

        /** The k-th that rests, as 10 i and j, or NONE. */
        int pair(int k) {
            int resting = 0;
            for (int i = 0; i < Kinds.ALL; i++) {
                for (int j = 0; j < Kinds.ALL; j++) {
                    if (rests(i, j)) {
                        if (resting == k) {
                            return 10 * i + j;
                        }
                        resting++;
                    }
                }
            }
            return NONE;
        }

        private void reckonPair(Province p, int i, int j) {
            int day = p.hour / DAY;
            int below = 0;
            int above = 0;
            for (int k = 0; k < p.strings.size; k++) {
                int shown = p.shownIn(k, 0);
                int byBelow = Kinds.charged(i, shown, day);
                int byAbove = Kinds.charged(j, shown, day);
                if (byBelow + byAbove <= 2 * p.bringing(k)) {
                    below += byBelow;
                    above += byAbove;
                }
            }
            if (Kinds.known(i) && Kinds.known(j)) {
                toBelow[i * Kinds.ALL + j] = below;
                toAbove[i * Kinds.ALL + j] = above;
            }
        }

        private boolean rests(int i, int j) {
            if (!Kinds.known(i) || !Kinds.known(j)) {
                return false;
            }
            int at = i * Kinds.ALL + j;
            for (int other = 0; other < Kinds.ALL; other++) {
                if (toBelow[other * Kinds.ALL + j] > toBelow[at] || toAbove[i * Kinds.ALL + other] > toAbove[at]) {
                    return false;
                }
            }
            return true;
        }
    }
}
