/** The boundaries that "Terms" names for THE TEXT: its length, its items, their numbers, each kind of FAULT. */
public final class TextEdgeTest {
    private static final Due due = new Due("TextEdgeTest");
    private static final String FIVE_STRINGS = "province 5;" + "string 0 1;".repeat(5);

    public static void main(String[] args) {
        bytesAtMost();
        itemsAreEnded();
        provinceOnceAndFirst();
        houseNumbers();
        stringNumbers();
        purseNumbers();
        sendMustBePaid();
        waitNumbers();
        figures();
        everyByte();
        wordsThatAreNone();
        provinceAgain();
        anythingAhead();
        aSixthString();
        threeFigures();
        numbersNotAsTold();
        stringsNotThereYet();
        bytesThatBeginNone();
        textsThatEndTooEarly();
        everyBeginning();
        theFirstFault();
        takesThePlace();
        readBehindRead();
        due.end();
    }

    /** The text is read, with so many items; THE TEXT, STATUS, THE FRACTION stay. */
    private static StringToll good(String text, int items) {
        StringToll x = States.some();
        due.is("read of '" + text + "'", Due.read(x, text), items);
        due.is("THE TEXT stays", x.count(5), text.length());
        due.is("nothing is refused", x.status(0) + x.status(1) + x.status(2), 0);
        due.is("nothing to undo", x.count(4), 0);
        return x;
    }

    /** The text has its fault there, and all stays. */
    private static void fault(String text, int place) {
        Sight.leavesAll(due, "read of '" + text + "'", () -> {
            StringToll x = States.some();
            Due.type(x, text);
            return x;
        }, StringToll::read, -10 - place);
    }

    private static void now(StringToll x, int what, int value) {
        due.is("now(" + what + ")", x.now(what), value);
    }

    private static void bytesAtMost() {
        due.says("THE PROVINCE is told by a TEXT (150 bytes at most)");
        String blanks = " ".repeat(139);
        now(good("province 5" + blanks + ";", 1), 0, 5);
        fault("province 5" + blanks + " ", 150);
        fault(" ".repeat(150), 150);
        fault("a".repeat(150), 0);
        fault("province".repeat(18) + "provin", 0);
        fault("1".repeat(150), 0);
        fault(";".repeat(150), 0);
        fault("province 5;" + blanks.substring(1) + ";", 149);
        fault("province 5;" + blanks.substring(1) + "a", 149);
        fault("province 5;" + blanks.substring(4) + "wait", 150);
        fault("province 5;" + blanks.substring(6) + "wait 1", 150);
        StringToll x = new StringToll();
        Due.type(x, "province 7" + " ".repeat(140));
        due.is("a 151st byte", x.type(';'), StringToll.FULL);
        due.is("is not read", x.read(), -160);
        now(x, 0, 20);
    }

    private static void itemsAreEnded() {
        due.says("of ITEMS, each ended by ; :");
        good("province 5;", 1);
        fault("province 5", 10);
        fault("province 5;wait 1", 17);
        fault("province 5;wait 1 wait 1;", 18);
        fault("province 5,", 10);
        fault("province 5;;", 11);
        fault("province 5; ;", 12);
        // the shortest items there are: as many as a text has room for
        now(good("province1;" + "wait9;".repeat(23) + "  ", 24), 6, 207);
    }

    private static void provinceOnceAndFirst() {
        due.says("province LINE (once, first of all);");
        now(good("province 1;", 1), 0, 1);
        now(good("province 60;", 1), 0, 60);
        fault("province 0;", 9);
        fault("province 00;", 9);
        fault("province 61;", 9);
        fault("province 99;", 9);
        fault("province 5;province 5;", 11);
        fault("wait 1;province 5;", 0);
    }

    private static void houseNumbers() {
        due.says("house w KIND (w 0 below, 1 above);");
        StringToll x = good("province 5;house 0 5;house 1 4;", 3);
        now(x, 1, 5);
        now(x, 2, 4);
        x = good("province 5;house 0 5;house 1 5;house 0 0;house 1 0;", 5);
        now(x, 1, 0);
        now(x, 2, 0);
        fault("province 5;house 2 0;", 17);
        fault("province 5;house 99 0;", 17);
        fault("province 5;house 0 6;", 19);
        fault("province 5;house 1 6;", 19);
        fault("province 5;house 1 99;", 19);
        fault("province 5;house 0;", 18);
        fault("province 5;house 0 0 0;", 21);
    }

    private static void stringNumbers() {
        due.says("string KIND LENGTH;");
        StringToll x = good("province 5;string 0 1;string 5 60;string 4 59;", 4);
        int[] told = {0, 1, 5, 60, 4, 59};
        for (int k = 0; k < told.length; k++) {
            due.is("of(" + k / 2 + ", " + k % 2 + ")", x.of(k / 2, k % 2), told[k]);
        }
        due.is("no more", x.count(0), 3);
        fault("province 5;string 6 1;", 18);
        fault("province 5;string 0 0;", 20);
        fault("province 5;string 0 61;", 20);
        fault("province 5;string 0;", 19);
        fault("province 5;string 0 1 1;", 22);
    }

    private static void purseNumbers() {
        due.says("purse n (0 .. 99: 100 times n);");
        now(good("province 5;", 1), 3, 100);
        now(good("province 5;purse 0;", 2), 3, 0);
        now(good("province 5;purse 1;", 2), 3, 100);
        now(good("province 5;purse 99;", 2), 3, 9900);
        now(good("province 5;purse 99;purse 0;", 3), 3, 0);
        fault("province 5;purse 100;", 17);
        fault("province 5;purse -1;", 17);
        fault("province 5;purse ;", 17);
    }

    private static void sendMustBePaid() {
        due.says("send i (it must be paid: else its number can not stand there);");
        // a chain of 60 shows 99: two plain houses charge 50 each, all that PURSE holds
        StringToll x = good("province 5;string 5 60;send 0;", 3);
        now(x, 3, 0);
        now(x, 4, 56);
        now(x, 5, 1);
        now(x, 6, 1);
        fault("province 5;string 5 60;send 0;send 0;", 35);
        fault("province 5;house 0 1;string 5 60;send 0;", 38);
        fault("province 5;string 0 1;purse 0;send 0;", 35);
        fault("province 5;string 0 1;purse 0;send 0", 35);
        // silk costs nothing until the hour 6, and from 18 on
        now(good("province 5;string 1 60;purse 0;wait 5;send 0;", 5), 6, 6);
        fault("province 5;string 1 60;purse 0;wait 6;send 0;", 43);
        fault("province 5;string 1 60;purse 0;wait 17;send 0;", 44);
        now(good("province 5;string 1 60;purse 0;wait 18;send 0;", 5), 4, 56);
        // one purse behind another takes its place
        now(good("province 5;string 5 60;send 0;purse 2;send 0;", 5), 3, 100);
    }

    private static void waitNumbers() {
        due.says("wait n (1 .. 99).");
        now(good("province 5;wait 1;", 2), 6, 1);
        now(good("province 5;wait 99;", 2), 6, 99);
        now(good("province 5;" + "wait 99;".repeat(17), 18), 6, 1683);
        fault("province 5;wait 0;", 16);
        fault("province 5;wait 00;", 16);
        fault("province 5;wait 100;", 16);
        fault("province 5;wait;", 15);
    }

    private static void figures() {
        due.says("TOKENS: words of letters a .. z, figures (1 or 2 are one number), ; ; blanks (32) between.");
        now(good("province 9;", 1), 0, 9);
        now(good("province 10;", 1), 0, 10);
        now(good("province 09;", 1), 0, 9);
        fault("province 1 0;", 11);
        now(good("   province   9   ;   wait   9   ;   ", 2), 6, 9);
        now(good("province9;wait9;", 2), 6, 9);
        due.is("00 is a number", good("province 9;string 00 09;", 2).of(0, 1), 9);
        fault("province 9;string 009;", 18);
    }

    private static boolean isLetter(int c) {
        return c >= 'a' && c <= 'z';
    }

    private static boolean isFigure(int c) {
        return c >= '0' && c <= '9';
    }

    private static void read(String text, boolean isGood, int place) {
        due.is("read of '" + text + "'", Due.read(new StringToll(), text), isGood ? 1 : -10 - place);
    }

    private static void everyByte() {
        for (int c = 0; c <= 127; c++) {
            char sign = (char) c;
            read(sign + "province 5;", c == ' ', 0);
            boolean isLine = c >= '0' && c <= '5';
            read("province" + sign + "5;", c == ' ' || isLine, isLetter(c) ? 0 : 8);
            read("province 5" + sign + ";", c == ' ' || isFigure(c), c == ';' ? 11 : 10);
            read("province 5;" + sign, c == ' ', 11);
            read("prov" + sign + "ince 5;", false, 0);
        }
    }

    private static void wordsThatAreNone() {
        due.says("FAULT: the place of the first byte of the first TOKEN that can not stand there (a word that is none,");
        fault("provinc 5;", 0);
        fault("provinces 5;", 0);
        fault("qrovince 5;", 0);
        fault("provincf 5;", 0);
        fault("  p", 2);
        for (String word : new String[] {"house", "string", "purse", "send", "wait"}) {
            fault("province 5;" + word.substring(1) + " 1 1;", 11);
            fault("province 5;" + word.substring(0, word.length() - 1) + " 1 1;", 11);
            fault("province 5;" + word + "s 1 1;", 11);
            fault("province 5;x" + word + " 1 1;", 11);
            fault("province 5;x" + word.substring(1) + " 1 1;", 11);
            fault("province 5;" + word.substring(0, word.length() - 1) + "x 1 1;", 11);
            fault("province 5;" + word + word + " 1 1;", 11);
            fault("province 5;" + word + " " + word + ";", 12 + word.length());
            fault("province " + word + ";", 9);
            fault(word + " 1 1;", 0);
        }
    }

    private static void provinceAgain() {
        due.says("province again,");
        fault("province 5;province 5;", 11);
        fault("province 5;wait 1; province", 19);
        fault("province province 5;", 9);
        fault("province 5 province 5;", 11);
    }

    private static void anythingAhead() {
        due.says("anything ahead of it,");
        fault("house 0 0;province 5;", 0);
        fault("string 0 1;province 5;", 0);
        fault("purse 1;province 5;", 0);
        fault("send 0;", 0);
        fault("wait 1;", 0);
        fault("5;", 0);
        fault(" 5", 1);
        fault(";province 5;", 0);
        fault("   ;", 3);
        fault("?province 5;", 0);
        fault("pond;", 0);
    }

    private static void aSixthString() {
        due.says("a 6th string at its word,");
        due.is("five", good(FIVE_STRINGS, 6).count(0), 5);
        fault(FIVE_STRINGS + "string 0 1;", 66);
        fault(FIVE_STRINGS + " string", 67);
        fault(FIVE_STRINGS + "wait 1;string 9 99;", 73);
        fault(FIVE_STRINGS + "strin", 66);
        now(good(FIVE_STRINGS + "wait 1;send 4;", 8), 6, 2);
    }

    private static void threeFigures() {
        due.says("a run of three figures or more (at its first one),");
        now(good("province 12;", 1), 0, 12);
        fault("province 123;", 9);
        fault("province 000;", 9);
        fault("province 001;", 9);
        fault("province 1234567890123456789;", 9);
        fault("province 12 123;", 12);
        fault("province 5;123;", 11);
        fault("province 5;house 000 1;", 17);
        fault("province 5;house 0 001;", 19);
        fault("province 5;string 000 1;", 18);
        fault("province 5;string 0 001;", 20);
        fault("province 5;purse 001;", 17);
        fault("province 5;string 0 1;send 000;", 27);
        fault("province 5;wait 001;", 16);
        fault("123 province 5;", 0);
        fault("province 5;wait 123", 16);
    }

    private static void numbersNotAsTold() {
        due.says("a number not as told,");
        String[] heads = {"province ", "province 5;house ", "province 5;house 0 ", "province 5;string ",
            "province 5;string 0 ", "province 5;purse ", "province 5;wait "};
        String[] tails = {";", " 0;", ";", " 1;", ";", ";", ";"};
        int[][] told = {{1, 60}, {0, 1}, {0, 5}, {0, 5}, {1, 60}, {0, 99}, {1, 99}};
        for (int k = 0; k < heads.length; k++) {
            for (int n = 0; n <= 99; n++) {
                String text = heads[k] + n + tails[k];
                boolean isTold = n >= told[k][0] && n <= told[k][1];
                due.is("read of '" + text + "'", Due.read(new StringToll(), text),
                    isTold ? k == 0 ? 1 : 2 : -10 - heads[k].length());
            }
            fault(heads[k] + "x" + tails[k], heads[k].length());
            fault(heads[k] + ";", heads[k].length());
            fault(heads[k] + "-1" + tails[k], heads[k].length());
        }
    }

    private static void stringsNotThereYet() {
        due.says("also a STRING that is not there yet,");
        fault("province 5;send 0;", 16);
        fault("province 5;send 0;string 0 1;", 16);
        fault("province 5;string 0 1;send 1;", 27);
        fault("province 5;string 0 1;send 99;", 27);
        fault(FIVE_STRINGS + "send 5;", 71);
        for (int i = 0; i < 5; i++) {
            now(good(FIVE_STRINGS + "send " + i + ";", 7), 3, 98);
        }
    }

    private static void bytesThatBeginNone() {
        due.says("a byte that begins none, too);");
        String signs = "\u0000\t\n\r!/:<@AZ[`{~\u001f\u007f";
        for (int k = 0; k < signs.length(); k++) {
            char sign = signs.charAt(k);
            fault(sign + "", 0);
            fault(" " + sign + "province 5;", 1);
            fault("province" + sign + "5;", 8);
            fault("province 5" + sign + ";", 10);
            fault("province 5;" + sign, 11);
            fault("province 5;wait 1" + sign + ";", 17);
        }
    }

    private static void textsThatEndTooEarly() {
        due.says("the TEXT's length, if it ends too early (an empty one, too).");
        fault("", 0);
        fault(" ", 1);
        fault("province", 8);
        fault("province ", 9);
        fault("province 5", 10);
        fault("province 60", 11);
        fault("province 5   ", 13);
        for (String word : new String[] {"house", "string", "purse", "send", "wait"}) {
            fault("province 5;" + word, 11 + word.length());
            fault("province 5;" + word + "   ", 14 + word.length());
        }
        fault("province 5;house 0", 18);
        fault("province 5;house 0 0", 20);
        fault("province 5;string 0", 19);
        fault("province 5;string 0 1", 21);
        fault("province 5;purse 1", 18);
        fault("province 5;string 1 1;send 0", 28);
        fault("province 5;wait 1", 17);
        good("province 5;", 1);
        good("province 5;  ", 1);
    }

    /** Each beginning of a text: an item is read where it is ended, else it ends too early, or in a word that is none. */
    private static void everyBeginning() {
        String text = " province 15 ;house 1 5; string 1 44;send 0;purse 12;wait 98;";
        for (int length = 0; length <= text.length(); length++) {
            String part = text.substring(0, length);
            int wordAt = length;
            while (wordAt > 0 && isLetter(part.charAt(wordAt - 1))) {
                wordAt--;
            }
            boolean isCut = wordAt < length && isLetter(text.charAt(length));
            String rest = part.substring(part.lastIndexOf(';') + 1);
            int items = part.length() - part.replace(";", "").length();
            boolean isEnded = items > 0 && rest.isBlank();
            int want = isEnded ? items : -10 - (isCut ? wordAt : length);
            due.is("read of '" + part + "'", Due.read(new StringToll(), part), want);
        }
    }

    private static void theFirstFault() {
        due.says("FAULT: the place of the first byte of the first TOKEN that can not stand there");
        fault("province 61;house 9 9;", 9);
        fault("province 5;house 9 9;", 17);
        fault("province 5;house 0 9;wait 0;", 19);
        fault("province 5;string 6 61;", 18);
        fault("province 5;send 0;wait 0;", 16);
        fault("province 5;wait 0", 16);
    }

    private static void takesThePlace() {
        due.says("A PROVINCE that is read takes the place of all but IMAGES, THE TEXT, THE FRACTION, STATUS "
            + "(CAME ones, NOTES, MARKS none; nothing to undo; PURSE 100).");
        StringToll x = States.full();
        x.waits(0);
        x.sends(0);
        x.string(0, 1);
        long above = x.part(0);
        long below = x.part(1);
        due.is("read", Due.read(x, "province 3;"), 1);
        int[] now = {3, 0, 0, 100, 0, 0, 0};
        for (int what = 0; what < now.length; what++) {
            now(x, what, now[what]);
        }
        for (int what = 0; what <= 4; what++) {
            due.is("count(" + what + ")", x.count(what), 0);
        }
        due.is("THE TEXT", x.count(5), 11);
        due.is("above", x.part(0), above);
        due.is("below", x.part(1), below);
        due.is("no fraction of a new one", below, 10);
        for (int which = 0; which <= 2; which++) {
            due.is("status(" + which + ")", x.status(which), 1);
        }
        due.is("undo", x.undo(), StringToll.NO);
        due.is("IMAGE 0", x.from(0), 1);
        due.is("has its strings", x.count(0), 5);
        due.is("and its HOUR", x.now(6), 0);
        due.is("IMAGE 1", x.from(1), 1);
        due.is("and its HOUR", x.now(6), 9999);
        due.is("and what may be undone", x.count(4), 8);
    }

    /** What is read stays, and is apart from what is read next, with a fault or without. */
    private static void readBehindRead() {
        StringToll x = new StringToll();
        due.is("one", Due.read(x, "province 7;string 0 8;house 0 5;wait 3;"), 4);
        long first = digestWithoutText(x);
        due.is("a fault behind it", Due.read(x, "province 9;string 5 9;house 1 1;wait 9;wait 0;"), -10 - 44);
        due.is("all stays", digestWithoutText(x), first);
        x.image(0);
        due.is("another", Due.read(x, "province 9;string 5 9;house 1 1;"), 3);
        due.is("a fault behind it", Due.read(x, "province 2;string 2 2;!"), -10 - 22);
        now(x, 0, 9);
        due.is("its string", x.of(0, 1), 9);
        x.from(0);
        due.is("the image is as the first", digestWithoutText(x), first);
        due.is("the same text again", Due.read(x, "province 7;string 0 8;house 0 5;wait 3;"), 4);
        due.is("is the same", digestWithoutText(x), first);
    }

    private static long digestWithoutText(StringToll x) {
        x.clear();
        return x.digest();
    }
}
