/** Promises 1 to 7: a new object, province, house, string, type, clear, read. */
public final class ProvinceTest {
    private static final Due due = new Due("ProvinceTest");

    public static void main(String[] args) {
        aNewObject();
        provinceEdges();
        provinceBeginsAnew();
        provinceLeavesWhatIsApart();
        houses();
        strings();
        typing();
        clearing();
        readingAll();
        readingNumbers();
        readingTakesThePlaceOfAll();
        readingSendsAndWaits();
        faultsAtWords();
        faultsAtNumbers();
        faultsAtTheEnd();
        aFaultLeavesAll();
        due.end();
    }

    private static void aNewObject() {
        StringToll x = new StringToll();
        int[] now = {20, 0, 0, 100, 0, 0, 0};
        for (int what = 0; what < now.length; what++) {
            due.is("new: now(" + what + ")", x.now(what), now[what]);
        }
        for (int what = 0; what <= 5; what++) {
            due.is("new: count(" + what + ")", x.count(what), 0);
        }
        for (int what = 0; what <= 2; what++) {
            due.is("new: status(" + what + ")", x.status(what), 0);
        }
        due.is("new: part(0)", x.part(0), 0);
        due.is("new: part(1)", x.part(1), 1);
        due.is("new: from(0)", x.from(0), StringToll.NO);
        due.is("new: from(1)", x.from(1), StringToll.NO);
        due.is("new: undo()", x.undo(), StringToll.NO);
    }

    private static void provinceEdges() {
        StringToll x = new StringToll();
        due.is("province(0, 5)", x.province(0, 5), StringToll.BAD);
        due.is("province(61, 5)", x.province(61, 5), StringToll.BAD);
        due.is("province(5, -1)", x.province(5, -1), StringToll.BAD);
        due.is("province(5, 10000)", x.province(5, 10000), StringToll.BAD);
        due.is("line stays", x.now(0), 20);
        due.is("purse stays", x.now(3), 100);
        due.is("four were BAD", x.status(0), 4);
        due.is("province(1, 0)", x.province(1, 0), 0);
        due.is("line 1", x.now(0), 1);
        due.is("purse 0", x.now(3), 0);
        due.is("province(60, 9999)", x.province(60, 9999), 0);
        due.is("line 60", x.now(0), 60);
        due.is("purse 9999", x.now(3), 9999);
    }

    private static StringToll full() {
        StringToll x = new StringToll();
        x.province(10, 900);
        x.house(0, 3);
        x.house(1, 1);
        x.string(0, 12);
        x.string(3, 20);
        x.sends(0);
        x.waits(4);
        x.came(12, 3);
        x.note(1, 2, 3, 7);
        x.mark(1, 20, 2, 12);
        x.type('p');
        x.type('r');
        x.scissors(5);
        x.image(1);
        return x;
    }

    private static void provinceBeginsAnew() {
        StringToll x = full();
        due.is("province(30, 44)", x.province(30, 44), 2);
        int[] now = {30, 0, 0, 44, 0, 0, 0};
        for (int what = 0; what < now.length; what++) {
            due.is("begun: now(" + what + ")", x.now(what), now[what]);
        }
        for (int what = 0; what <= 4; what++) {
            due.is("begun: count(" + what + ")", x.count(what), 0);
        }
    }

    private static void provinceLeavesWhatIsApart() {
        StringToll x = full();
        x.house(7, 7);
        long above = x.part(0);
        long below = x.part(1);
        x.province(30, 44);
        due.is("THE TEXT stays", x.count(5), 2);
        due.is("above stays", x.part(0), above);
        due.is("below stays", x.part(1), below);
        // strings of 12 and 20 bring 3 and 11 over a line of 10; halved 0 and 1: in the mean 15 by 2
        due.is("above", above, 15);
        due.is("below", below, 2);
        due.is("STATUS stays", x.status(0), 1);
        due.is("the image stays", x.from(1), 1);
        due.is("and has the strings", x.count(0), 2);
    }

    private static void houses() {
        StringToll x = new StringToll();
        x.waits(1);
        due.is("house(-1, 0)", x.house(-1, 0), StringToll.BAD);
        due.is("house(2, 0)", x.house(2, 0), StringToll.BAD);
        due.is("house(0, -1)", x.house(0, -1), StringToll.BAD);
        due.is("house(0, 6)", x.house(0, 6), StringToll.BAD);
        due.is("a refused house leaves what may be undone", x.count(4), 1);
        due.is("house(0, 5)", x.house(0, 5), 0);
        due.is("a house leaves none to undo", x.count(4), 0);
        due.is("house(1, 4)", x.house(1, 4), 0);
        due.is("house(0, 1)", x.house(0, 1), 5);
        due.is("below", x.now(1), 1);
        due.is("above", x.now(2), 4);
        due.is("house(1, 4)", x.house(1, 4), 4);
    }

    private static void strings() {
        StringToll x = new StringToll();
        x.waits(1);
        due.is("string(-1, 5)", x.string(-1, 5), StringToll.BAD);
        due.is("string(6, 5)", x.string(6, 5), StringToll.BAD);
        due.is("string(0, 0)", x.string(0, 0), StringToll.BAD);
        due.is("string(0, 61)", x.string(0, 61), StringToll.BAD);
        due.is("a refused string leaves what may be undone", x.count(4), 1);
        due.is("string(5, 60)", x.string(5, 60), 0);
        due.is("a string leaves none to undo", x.count(4), 0);
        for (int i = 1; i < 5; i++) {
            due.is("string " + i, x.string(i, i), i);
        }
        x.waits(1);
        due.is("a sixth", x.string(0, 1), StringToll.FULL);
        due.is("a sixth that is BAD, too", x.string(0, 0), StringToll.BAD);
        due.is("a full one leaves what may be undone", x.count(4), 1);
        due.is("status(0)", x.status(0), 5);
        due.is("status(2)", x.status(2), 1);
    }

    private static void typing() {
        StringToll x = new StringToll();
        due.is("type(-1)", x.type(-1), StringToll.BAD);
        due.is("type(128)", x.type(128), StringToll.BAD);
        due.is("type(0)", x.type(0), 1);
        due.is("type(127)", x.type(127), 2);
        for (int i = 3; i <= 150; i++) {
            due.is("byte " + i, x.type(32), i);
        }
        due.is("a byte more", x.type(32), StringToll.FULL);
        due.is("a byte more that is BAD", x.type(200), StringToll.BAD);
        due.is("count(5)", x.count(5), 150);
        due.is("status(2)", x.status(2), 1);
    }

    private static void clearing() {
        StringToll x = new StringToll();
        due.is("clear()", x.clear(), 0);
        x.type(';');
        x.type(';');
        due.is("clear()", x.clear(), 2);
        due.is("count(5)", x.count(5), 0);
        due.is("clear()", x.clear(), 0);
        due.is("nothing refused", x.status(0) + x.status(1) + x.status(2), 0);
    }

    private static void readingAll() {
        StringToll x = new StringToll();
        due.is("province alone", Due.read(x, "province 7;"), 1);
        due.is("line", x.now(0), 7);
        due.is("purse", x.now(3), 100);
        String text = "  province   33 ; house 0 4;house 1 2;string 5 60;string 1 1;purse 99 ;wait 99;  ";
        due.is("all items", Due.read(x, text), 7);
        int[] now = {33, 4, 2, 9900, 0, 0, 99};
        for (int what = 0; what < now.length; what++) {
            due.is("read: now(" + what + ")", x.now(what), now[what]);
        }
        due.is("kind 0", x.of(0, 0), 5);
        due.is("length 0", x.of(0, 1), 60);
        due.is("kind 1", x.of(1, 0), 1);
        due.is("length 1", x.of(1, 1), 1);
        due.is("THE TEXT stays", x.count(5), text.length());
        due.is("read again", x.read(), 7);
        due.is("no blanks where none are wanted", Due.read(x, "province9;string2 8;wait1;"), 3);
        due.is("line", x.now(0), 9);
        due.is("a full text", Due.read(x, "province 5;" + "purse 0;".repeat(17) + "   "), 18);
        due.is("its length", x.count(5), 150);
        due.is("its purse", x.now(3), 0);
    }

    private static void readingNumbers() {
        StringToll x = new StringToll();
        due.is("a figure 0 ahead", Due.read(x, "province 07;house 00 05;house 01 00;string 00 09;send 00;wait 01;"), 6);
        due.is("line", x.now(0), 7);
        due.is("below", x.now(1), 5);
        due.is("length", x.of(0, 1), 9);
        due.is("hour", x.now(6), 2);
        due.is("edges", Due.read(x, "province 60;string 5 60;string 0 1;purse 0;purse 99;wait 99;"), 6);
        due.is("purse", x.now(3), 9900);
    }

    private static void readingTakesThePlaceOfAll() {
        StringToll x = full();
        long above = x.part(0);
        x.status(9);
        due.is("read", Due.read(x, "province 3;wait 2;"), 2);
        int[] now = {3, 0, 0, 100, 0, 0, 2};
        for (int what = 0; what < now.length; what++) {
            due.is("read over: now(" + what + ")", x.now(what), now[what]);
        }
        for (int what = 0; what <= 4; what++) {
            due.is("read over: count(" + what + ")", x.count(what), 0);
        }
        due.is("THE FRACTION stays", x.part(0), above);
        due.is("STATUS stays", x.status(0), 1);
        due.is("the image stays", x.from(1), 1);
        due.is("with its strings", x.count(0), 2);
    }

    private static void readingSendsAndWaits() {
        StringToll x = new StringToll();
        // a plain string of 40 costs 20 and 20; it brings 40 + 1 - 31 = 10
        due.is("two sends", Due.read(x, "province 31;string 0 40;send 0;wait 3;send 0;"), 5);
        due.is("purse", x.now(3), 20);
        due.is("haul", x.now(4), 20);
        due.is("stamps", x.now(5), 2);
        due.is("hour", x.now(6), 5);
        due.is("nothing to undo", x.undo(), StringToll.NO);
        String third = "province 31;string 0 40;send 0;send 0;send 0;";
        due.is("a third can not be paid", Due.read(x, third), -10 - (third.lastIndexOf('0')));
        due.is("unpaid, though the text ends there", Due.read(x, "province 31;string 0 40;purse 0;send 0"), -10 - 37);
        due.is("paid to the last", Due.read(x, "province 31;string 0 50;send 0;send 0;"), 4);
        due.is("purse", x.now(3), 0);
    }

    private static void faultsAtWords() {
        fault("house 0 0;", 0);
        fault("7;", 0);
        fault(";", 0);
        fault("  ;", 2);
        fault("Province 5;", 0);
        fault("provinc 5;", 0);
        fault("provincee 5;", 0);
        fault("province 5;province 5;", 11);
        fault("province 5;houses 0 0;", 11);
        fault("province 5;  pond 0 0;", 13);
        fault("province 5;waitz 1;", 11);
        fault("province 5;await 1;", 11);
        fault("province 5;;", 11);
        fault("province 5;5;", 11);
        fault("province 5;-", 11);
        fault("province 5;\u0000", 11);
        fault("province 5;\twait 1;", 11);
        fault("province 5 wait 1;", 11);
        fault("province 5 5;", 11);
        fault("province ;", 9);
        fault("province x;", 9);
        String five = "province 5;" + "string 0 1;".repeat(5);
        due.is("five strings", Due.read(new StringToll(), five), 6);
        fault(five + "string 0 1;", five.length());
        fault(five + "  string", five.length() + 2);
    }

    private static void faultsAtNumbers() {
        fault("province 0;", 9);
        fault("province 61;", 9);
        fault("province 005;", 9);
        fault("province 123456789012345;", 9);
        fault("province 5;wait 0;", 16);
        fault("province 5;wait 100;", 16);
        fault("province 5;house 2 0;", 17);
        fault("province 5;house 0 6;", 19);
        fault("province 5;house 0;", 18);
        fault("province 5;house 0 0 0;", 21);
        fault("province 5;string 6 1;", 18);
        fault("province 5;string 0 0;", 20);
        fault("province 5;string 0 61;", 20);
        fault("province 5;send 0;", 16);
        fault("province 5;string 0 1;send 1;", 27);
        fault("province 5;string 0 1;send 0", 28);
        fault("province 5;purse 100;", 17);
        fault("province 5;purse -1;", 17);
        fault("province 5;wait 1.;", 17);
        fault("province 5;wait{1;", 15);
        fault("province 5;wait`1;", 15);
        fault("province 5;wait/1;", 15);
        fault("province 5;wait:1;", 15);
        fault("province 5;wait a1;", 16);
        fault("province 5;wait 1a;", 17);
    }

    private static void faultsAtTheEnd() {
        fault("", 0);
        fault("    ", 4);
        fault("province", 8);
        fault("province  ", 10);
        fault("province 5", 10);
        fault("province 5;wait", 15);
        fault("province 5;wait 5", 17);
        fault("province 5;house 1 ", 19);
        fault("province 5;string 1 1 ", 22);
    }

    private static void fault(String text, int place) {
        due.is("read of '" + text + "'", Due.read(new StringToll(), text), -10 - place);
    }

    private static void aFaultLeavesAll() {
        StringToll x = full();
        String text = "province 3;house 0 1;string 5 5;send 0;wait 4;send 1;";
        x.clear();
        for (int i = 0; i < text.length(); i++) {
            x.type(text.charAt(i));
        }
        long before = x.digest();
        due.is("fault", x.read(), -10 - text.lastIndexOf('1'));
        due.is("all stays", x.digest(), before);
        due.is("what may be undone stays", x.undo(), 1);
        due.is("a fault is refused by none of the three", x.status(0) + x.status(1) + x.status(2), 0);
    }
}
