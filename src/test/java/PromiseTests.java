import java.util.List;
import java.util.function.IntFunction;

/** For each promise of the document: ordinary calls, the edges that it names, and the refusals. */
public final class PromiseTests {
    private static final int NONE = -1, BAD = -2, NOT = -3, FULL = -4;
    private static final int NULL = -11, INDEX = -12, CAST = -13, STORE = -14, SIZE = -15;
    private static final int LEAST_INT = Integer.MIN_VALUE;
    private static final long LEAST_LONG = Long.MIN_VALUE;

    private static int promise = 0;
    private static int checks = 0;
    private static int wrong = 0;

    public static void main(String[] args) {
        List<Runnable> tests = List.of(
            PromiseTests::newObject, PromiseTests::type, PromiseTests::wipe, PromiseTests::fault,
            PromiseTests::height, PromiseTests::street, PromiseTests::set, PromiseTests::read,
            PromiseTests::fall, PromiseTests::sweep, PromiseTests::cart, PromiseTests::rain,
            PromiseTests::undo, PromiseTests::lies, PromiseTests::fine, PromiseTests::judged,
            PromiseTests::least, PromiseTests::nets, PromiseTests::cut, PromiseTests::bribe,
            PromiseTests::rests, PromiseTests::odds, PromiseTests::waits, PromiseTests::who,
            PromiseTests::origin, PromiseTests::best, PromiseTests::sheet, PromiseTests::lose,
            PromiseTests::put, PromiseTests::get, PromiseTests::copy, PromiseTests::write,
            PromiseTests::count, PromiseTests::digest);
        for (Runnable test : tests) {
            promise++;
            int before = checks;
            test.run();
            if (checks == before) {
                wrong++;
                System.out.println("promise " + promise + ": nothing was checked");
            }
        }
        System.out.println(tests.size() + " promises, " + checks + " checks, " + wrong + " wrong");
        if (wrong != 0) {
            System.exit(1);
        }
    }

    private static void is(String what, long want, long got) {
        checks++;
        if (got != want) {
            wrong++;
            System.out.println("promise " + promise + ", " + what + ": " + got + ", due is " + want);
        }
    }

    /** A call that is refused with an answer and leaves the digest, and all else but a FINDING, as it was. */
    private static void refused(SweptDownhill x, String what, long want, IntFunction<Long> call) {
        long before = x.digest();
        is(what, want, call.apply(0));
        is(what + " changes nothing", before, x.digest());
    }

    private static SweptDownhill town(String doors, String streets) {
        SweptDownhill x = new SweptDownhill();
        typeAll(x, 0, doors);
        typeAll(x, 1, streets);
        return x;
    }

    private static int typeAll(SweptDownhill x, int text, String bytes) {
        int size = 0;
        for (int i = 0; i < bytes.length(); i++) {
            size = x.type(text, bytes.charAt(i));
        }
        return size;
    }

    /** A ladder of four DOORS with a STREET from each to the next one. */
    private static SweptDownhill ladder() {
        return town("9630", "01;12;23");
    }

    private static String row(IntFunction<Long> call, int many) {
        StringBuilder row = new StringBuilder();
        for (int i = 0; i < many; i++) {
            row.append(i == 0 ? "" : " ").append(call.apply(i));
        }
        return row.toString();
    }

    private static void rowIs(String what, String want, String got) {
        checks++;
        if (!got.equals(want)) {
            wrong++;
            System.out.println("promise " + promise + ", " + what + ": " + got + ", due is " + want);
        }
    }

    private static String allLies(SweptDownhill x, int minute) {
        return row(d -> (long) x.lies(d, minute, NONE), x.count(0));
    }

    private static void newObject() {
        SweptDownhill x = new SweptDownhill();
        rowIs("counts", "0 0 0 0 0 0 0 59 0", row(i -> (long) x.count(i), 9));
        rowIs("faults", "-1 -1", row(i -> (long) x.fault(i), 2));
        rowIs("all lost", "-11 -11 -11 -11", row(i -> (long) x.lose(i), 4));
        rowIs("rates", "1 2 3 4 5", row(i -> (long) x.set(0, i, 0), 5));
        rowIs("holds", "99 99 99 99 99 99 99 99", row(i -> (long) x.set(1, i, 0), 8));
        rowIs("prides", "1 1 1 1 1 1 1 1", row(i -> (long) x.set(2, i, 2), 8));
        is("nine", 59, x.set(3, 0, 0));
        for (int minute = 0; minute < 60; minute++) {
            is("no rain", 0, x.rain(minute, 0));
        }
        is("fines", 0, x.fine(NONE));
        is("judged", NONE, x.judged());
        is("least", 0, x.least(3, NONE));
        is("rests", 0, x.rests());
        is("best", NONE, x.best());
        is("NONE", -1, SweptDownhill.NONE);
        is("BAD", -2, SweptDownhill.BAD);
        is("NOT", -3, SweptDownhill.NOT);
        is("FULL", -4, SweptDownhill.FULL);
    }

    private static void type() {
        SweptDownhill x = new SweptDownhill();
        rowIs("doors", "1 2 3 4 5 6 7 8 -4 -4", row(i -> (long) x.type(0, '5'), 10));
        is("BAD ahead of FULL", BAD, x.type(0, 256));
        is("0 is a byte", 1, x.type(1, 0));
        is("255 is a byte", 2, x.type(1, 255));
        for (int i = 3; i <= 40; i++) {
            is("street byte", i, x.type(1, ';'));
        }
        refused(x, "FULL", FULL, i -> (long) x.type(1, '0'));
        is("bytes", 40, x.count(3));
        SweptDownhill y = new SweptDownhill();
        refused(y, "text 2", BAD, i -> (long) y.type(2, '0'));
        refused(y, "text -1", BAD, i -> (long) y.type(-1, '0'));
        refused(y, "byte -1", BAD, i -> (long) y.type(0, -1));
        refused(y, "byte 256", BAD, i -> (long) y.type(1, 256));
        refused(y, "least int", BAD, i -> (long) y.type(0, LEAST_INT));
        is("no FINDING", 0, y.count(8));
    }

    private static void wipe() {
        SweptDownhill x = ladder();
        is("an empty one", 0, new SweptDownhill().wipe(0));
        is("streets", 8, x.wipe(1));
        is("no bytes", 0, x.count(3));
        is("no streets", 0, x.count(1));
        is("doors stay", 4, x.count(0));
        is("doors", 4, x.wipe(0));
        is("again", 0, x.wipe(0));
        is("no doors", 0, x.count(0));
        is("from the start", 1, x.type(0, '7'));
        is("its height", 7, x.height(0));
        refused(x, "text 2", BAD, i -> (long) x.wipe(2));
        refused(x, "text -1", BAD, i -> (long) x.wipe(-1));
        SweptDownhill y = ladder();
        y.fall(0, 0, 0, 5);
        y.wipe(1);
        y.wipe(0);
        is("nothing lies where no DOOR is", 0, y.fine(NONE));
        typeAll(y, 0, "1");
        is("FALLS stay told", 5, y.fine(0));
    }

    private static void faultOf(String doors, String streets, int ofDoors, int ofStreets) {
        SweptDownhill x = town(doors, streets);
        String what = "\"" + doors + "\" \"" + streets + "\"";
        is(what + " doors", ofDoors, x.fault(0));
        is(what + " streets", ofStreets, x.fault(1));
        is(what + " count 0", ofDoors == NONE ? doors.length() : 0, x.count(0));
        is(what + " count 1", ofStreets == NONE ? (streets.length() + 1) / 3 : 0, x.count(1));
    }

    private static void fault() {
        faultOf("", "", NONE, NONE);
        faultOf("9", "", NONE, NONE);
        faultOf("90909090", "", NONE, NONE);
        faultOf("x", "", 0, NONE);
        faultOf("9x5", "", 1, NONE);
        faultOf("95:", "", 2, NONE);
        faultOf("95/x", "", 2, NONE);
        faultOf("95x", "01", 2, 0);
        faultOf("", "01", NONE, 0);
        faultOf("95", "01", NONE, NONE);
        faultOf("95", "0", NONE, 1);
        faultOf("95", "01;", NONE, 3);
        faultOf("95", "01;0", NONE, 4);
        faultOf("95", "01;01", NONE, NONE);
        faultOf("95", "0;", NONE, 1);
        faultOf("95", ";", NONE, 0);
        faultOf("95", "011", NONE, 2);
        faultOf("95", "01,01", NONE, 2);
        faultOf("95", "01;;", NONE, 3);
        faultOf("95", "2", NONE, 0);
        faultOf("95", "02", NONE, 1);
        faultOf("95", "00", NONE, 1);
        faultOf("95", "10", NONE, 1);
        faultOf("95", "01;10;x", NONE, 4);
        faultOf("955", "12", NONE, 1);
        faultOf("955", "02;12", NONE, 4);
        faultOf("59", "10", NONE, NONE);
        String twelve = "01;01;01;01;01;01;01;01;01;01;01;01";
        faultOf("95", twelve, NONE, NONE);
        faultOf("95", twelve + ";", NONE, 36);
        faultOf("95", twelve + ";0", NONE, 36);
        faultOf("95", twelve + ";01", NONE, 36);
        faultOf("95", twelve + ";01;", NONE, 36);
        faultOf("95", twelve + ";x", NONE, 36);
        faultOf("95", twelve + "x", NONE, 35);
        SweptDownhill x = town("95", "01");
        x.type(0, 'x');
        is("doors made ill", 0, x.fault(1));
        x.wipe(0);
        typeAll(x, 0, "55");
        is("doors made level", 1, x.fault(1));
        refused(x, "text 2", BAD, i -> (long) x.fault(2));
        refused(x, "text -1", BAD, i -> (long) x.fault(-1));
    }

    private static void height() {
        SweptDownhill x = town("01234567", "");
        rowIs("heights", "0 1 2 3 4 5 6 7 -2", row(i -> (long) x.height(i), 9));
        is("door -1", BAD, x.height(-1));
        SweptDownhill y = town("98", "");
        rowIs("two", "9 8 -2", row(i -> (long) y.height(i), 3));
        y.type(0, '!');
        is("with a FAULT", BAD, y.height(0));
        is("no doors", BAD, new SweptDownhill().height(0));
        is("least int", BAD, y.height(LEAST_INT));
    }

    private static void street() {
        SweptDownhill x = town("0369", "30;21;32");
        rowIs("uppers", "3 2 3 -2", row(i -> (long) x.street(i, 0), 4));
        rowIs("lowers", "0 1 2 -2", row(i -> (long) x.street(i, 1), 4));
        is("street -1", BAD, x.street(-1, 0));
        is("what 2", BAD, x.street(0, 2));
        is("what -1", BAD, x.street(0, -1));
        x.type(1, ';');
        is("with a FAULT", BAD, x.street(0, 0));
    }

    private static void set() {
        SweptDownhill x = ladder();
        is("rate", 5, x.set(0, 4, 0));
        is("rate again", 0, x.set(0, 4, 9));
        is("hold", 99, x.set(1, 7, 0));
        is("hold again", 0, x.set(1, 7, 99));
        is("pride", 1, x.set(2, 7, 9));
        is("pride again", 9, x.set(2, 7, 1));
        is("nine", 59, x.set(3, 0, 0));
        is("nine again", 0, x.set(3, 0, 59));
        int[][] bad = {{0, -1, 1}, {0, 5, 1}, {0, 0, -1}, {0, 0, 10}, {1, -1, 1}, {1, 8, 1}, {1, 0, -1}, {1, 0, 100},
            {2, -1, 1}, {2, 8, 1}, {2, 0, 0}, {2, 0, 10}, {3, -1, 5}, {3, 1, 5}, {3, 0, -1}, {3, 0, 60},
            {-1, 0, 1}, {4, 0, 1}, {LEAST_INT, LEAST_INT, LEAST_INT}};
        for (int[] b : bad) {
            refused(x, "set " + b[0] + " " + b[1] + " " + b[2], BAD, i -> (long) x.set(b[0], b[1], b[2]));
        }
        is("rate as it was", 9, x.set(0, 4, 5));
        is("hold as it was", 99, x.set(1, 0, 99));
        is("pride as it was", 1, x.set(2, 0, 1));
    }

    private static void read() {
        SweptDownhill x = new SweptDownhill();
        x.sheet(1, 2, 48);
        for (int i = 0; i < 48; i++) {
            x.put(1, 2, i, i + 10);
        }
        is("eight at most", 8, x.read(1));
        rowIs("holds, with no DOORS too", "10 11 12 13 14 15 16 17", row(i -> (long) x.set(1, i, 50), 8));
        x.put(1, 2, 2, 100);
        is("up to 100", 2, x.read(1));
        rowIs("the rest stays", "10 11 50 50 50 50 50 50", row(i -> (long) x.set(1, i, 50), 8));
        x.put(1, 2, 0, -1);
        is("none", 0, x.read(1));
        is("as it was", 50, x.set(1, 0, 50));
        x.sheet(2, 0, 3);
        x.put(2, 0, 1, 99);
        is("all items", 3, x.read(2));
        rowIs("0 and 99 are HOLDS", "0 99 0 50", row(i -> (long) x.set(1, i, 50), 4));
        x.sheet(2, 1, 0);
        is("no items", 0, x.read(2));
        refused(x, "NULL", NULL, i -> (long) x.read(0));
        is("FINDING", 1, x.count(8));
        refused(x, "sheet 4", BAD, i -> (long) x.read(4));
        refused(x, "sheet -1", BAD, i -> (long) x.read(-1));
        SweptDownhill y = ladder();
        y.fall(0, 0, 0, 5);
        y.sweep(0, 0);
        y.sheet(0, 0, 2);
        is("read", 2, y.read(0));
        is("HOLDS bind", 0, y.judged());
    }

    private static void fall() {
        SweptDownhill x = ladder();
        is("first", 1, x.fall(0, 0, 0, 1));
        is("edges", 2, x.fall(59, 7, 4, 9));
        int[][] bad = {{-1, 0, 0, 1}, {60, 0, 0, 1}, {0, -1, 0, 1}, {0, 8, 0, 1}, {0, 0, -1, 1}, {0, 0, 5, 1},
            {0, 0, 0, 0}, {0, 0, 0, 10}, {0, 0, 0, -1}};
        for (int[] b : bad) {
            refused(x, "fall", BAD, i -> (long) x.fall(b[0], b[1], b[2], b[3]));
        }
        for (int i = 3; i <= 20; i++) {
            is("how many", i, x.fall(1, 1, 1, 1));
        }
        refused(x, "FULL", FULL, i -> (long) x.fall(0, 0, 0, 1));
        is("BAD ahead of FULL", BAD, x.fall(60, 0, 0, 1));
        is("fallen", 18, x.lies(1, 1, 1));
        is("at a DOOR that is not there", 1 + 18 * 2, x.fine(NONE));
    }

    private static void sweep() {
        SweptDownhill x = ladder();
        is("first", 1, x.sweep(59, 11));
        int[][] bad = {{-1, 0}, {60, 0}, {0, -1}, {0, 12}};
        for (int[] b : bad) {
            refused(x, "sweep", BAD, i -> (long) x.sweep(b[0], b[1]));
        }
        for (int i = 2; i <= 24; i++) {
            is("how many", i, x.sweep(0, 0));
        }
        refused(x, "FULL", FULL, i -> (long) x.sweep(0, 0));
        is("BAD ahead of FULL", BAD, x.sweep(0, 12));
        is("all are told", 24, x.count(5));
        x.fall(0, 0, 0, 1);
        rowIs("swept", "0 1 0 0", allLies(x, 0));
    }

    private static void cart() {
        SweptDownhill x = ladder();
        is("first", 1, x.cart(59, 7));
        int[][] bad = {{-1, 0}, {60, 0}, {0, -1}, {0, 8}};
        for (int[] b : bad) {
            refused(x, "cart", BAD, i -> (long) x.cart(b[0], b[1]));
        }
        for (int i = 2; i <= 8; i++) {
            is("how many", i, x.cart(i, 0));
        }
        refused(x, "FULL", FULL, i -> (long) x.cart(0, 0));
        is("BAD ahead of FULL", BAD, x.cart(0, 8));
        x.fall(1, 0, 0, 4);
        x.fall(8, 0, 0, 4);
        rowIs("ahead of it", "4 0 0 0", allLies(x, 1));
        rowIs("behind it", "0 0 0 0", allLies(x, 2));
        rowIs("a FALL of its minute", "0 0 0 0", allLies(x, 8));
        SweptDownhill first = ladder();
        first.fall(0, 2, 0, 4);
        first.cart(0, 2);
        is("in the first minute", 0, first.lies(2, 0, NONE));
        is("and for ODDS", 0, first.odds(0, 0));
        is("and behind a LEAST", first.fine(NONE), first.least(0, NONE));
        is("and for a minute between", 0, first.lies(2, 9, NONE));
    }

    private static void rain() {
        SweptDownhill x = ladder();
        x.fall(5, 0, 0, 4);
        is("was", 0, x.rain(5, 1));
        rowIs("washed down", "0 0 0 4", allLies(x, 5));
        is("was 1", 1, x.rain(5, 1));
        is("was 1 still", 1, x.rain(5, 0));
        rowIs("not washed down", "4 0 0 0", allLies(x, 5));
        is("last minute", 0, x.rain(59, 1));
        is("last minute again", 1, x.rain(59, 1));
        int[][] bad = {{-1, 0}, {60, 0}, {0, -1}, {0, 2}};
        for (int[] b : bad) {
            refused(x, "rain", BAD, i -> (long) x.rain(b[0], b[1]));
        }
    }

    private static void undo() {
        SweptDownhill x = ladder();
        for (int what = 0; what < 3; what++) {
            int w = what;
            refused(x, "none", NOT, i -> (long) x.undo(w));
        }
        x.fall(0, 0, 0, 1);
        x.fall(0, 0, 0, 2);
        x.sweep(1, 0);
        x.sweep(0, 0);
        x.cart(2, 1);
        is("swept and carted", 0, x.fine(NONE));
        is("cart", 0, x.undo(2));
        is("swept", 3, x.fine(1));
        is("sweep", 1, x.undo(1));
        rowIs("the last told is undone, not the last by minutes", "3 0 0 0", allLies(x, 0));
        rowIs("the other one stays", "0 3 0 0", allLies(x, 1));
        is("fall", 1, x.undo(0));
        is("one is left", 1, x.fine(NONE));
        is("sweep again", 0, x.undo(1));
        is("no sweep", NOT, x.undo(1));
        is("fall again", 0, x.undo(0));
        is("no fall", NOT, x.undo(0));
        is("nothing lies", 0, x.fine(NONE));
        refused(x, "what 3", BAD, i -> (long) x.undo(3));
        refused(x, "what -1", BAD, i -> (long) x.undo(-1));
    }

    private static void lies() {
        SweptDownhill x = ladder();
        x.set(3, 0, 10);
        x.cart(2, 2);
        x.sweep(2, 1);
        x.sweep(2, 0);
        x.rain(1, 1);
        x.fall(1, 0, 3, 7);
        x.fall(2, 1, 2, 5);
        x.fall(2, 0, 4, 6);
        rowIs("ahead of all", "0 0 0 0", allLies(x, 0));
        rowIs("a FALL comes ahead of RAIN", "0 0 0 7", allLies(x, 1));
        rowIs("SWEEPS as told, then the CART", "0 6 0 7", allLies(x, 2));
        rowIs("kinds", "0 0 0 0 6", row(k -> (long) x.lies(1, 2, k), 5));
        rowIs("kinds below", "0 0 0 7 0", row(k -> (long) x.lies(3, 10, k), 5));
        int[][] bad = {{-1, 0, 0}, {4, 0, 0}, {0, -1, 0}, {0, 11, 0}, {0, 59, 0}, {0, 0, 5}, {0, 0, -2}};
        for (int[] b : bad) {
            refused(x, "lies", BAD, i -> (long) x.lies(b[0], b[1], b[2]));
        }
        x.set(3, 0, 1);
        is("NINE binds", BAD, x.lies(0, 2, 0));

        SweptDownhill level = town("4994", "23;10;13;20");
        level.fall(0, 1, 0, 1);
        level.fall(0, 2, 0, 2);
        level.fall(0, 0, 0, 4);
        level.rain(0, 1);
        rowIs("RAIN by the least STREET of each DOOR; it stays where none is", "5 0 0 2", allLies(level, 0));

        SweptDownhill chain = town("1593", "21;13;30;20");
        chain.fall(0, 2, 0, 3);
        chain.set(1, 1, 0);
        chain.rain(0, 1);
        rowIs("RAIN from the highest on, whatever HOLD is", "3 0 0 0", allLies(chain, 0));

        SweptDownhill held = ladder();
        held.set(1, 1, 5);
        held.fall(0, 0, 0, 3);
        held.fall(0, 1, 0, 2);
        held.sweep(0, 0);
        rowIs("just its HOLD", "0 5 0 0", allLies(held, 0));
        held.set(1, 1, 4);
        rowIs("more than its HOLD", "3 2 0 0", allLies(held, 0));
        held.fall(1, 7, 0, 9);
        held.cart(1, 7);
        held.cart(1, 0);
        rowIs("a DOOR that is not there", "0 2 0 0", allLies(held, 1));
    }

    private static void fine() {
        SweptDownhill x = ladder();
        for (int kind = 0; kind < 5; kind++) {
            x.fall(kind, kind % 3, kind, kind + 1);
        }
        rowIs("each", "17 29 9 0 -2", row(d -> (long) x.fine(d), 5));
        is("together", 55, x.fine(NONE));
        x.set(0, 4, 0);
        x.set(0, 0, 9);
        rowIs("by RATES", "25 4 9 0", row(d -> (long) x.fine(d), 4));
        x.set(3, 0, 2);
        rowIs("behind NINE", "9 4 9 0", row(d -> (long) x.fine(d), 4));
        x.set(2, 0, 9);
        is("PRIDE is not FINE", 9, x.fine(0));
        refused(x, "door 4", BAD, i -> (long) x.fine(4));
        refused(x, "door -2", BAD, i -> (long) x.fine(-2));
        is("no doors", BAD, new SweptDownhill().fine(0));
        SweptDownhill most = town("0", "");
        for (int i = 0; i < 20; i++) {
            most.fall(59, 0, 4, 9);
        }
        most.set(0, 4, 9);
        is("the most", 1620, most.fine(0));
    }

    private static void judged() {
        SweptDownhill x = ladder();
        is("none", NONE, x.judged());
        x.fall(0, 0, 0, 5);
        x.sweep(7, 0);
        is("lawful", NONE, x.judged());
        x.sweep(9, 3);
        is("no such STREET", 1, x.judged());
        x.sweep(8, 11);
        is("by minutes", 2, x.judged());
        x.sweep(8, 10);
        is("of like ones as told", 2, x.judged());
        x.set(3, 0, 7);
        is("behind NINE", NONE, x.judged());
        x.set(3, 0, 8);
        is("in NINE", 2, x.judged());
        x.set(1, 1, 4);
        is("more than its HOLD", 0, x.judged());
        x.set(1, 1, 5);
        is("just its HOLD", 2, x.judged());

        SweptDownhill full = ladder();
        full.fall(0, 1, 0, 5);
        full.sweep(0, 0);
        is("nothing above", NONE, full.judged());
        full.set(1, 1, 5);
        is("nothing above, all that it holds", NONE, full.judged());
        full.set(1, 1, 4);
        is("nothing above, more already", 0, full.judged());
        full.wipe(1);
        is("STREETS are gone", 0, full.judged());
        full.undo(1);
        is("undone", NONE, full.judged());
    }

    private static void leastIs(SweptDownhill x, int k, String want) {
        rowIs("least " + k, want, row(i -> (long) x.least(k, i - 1), 4));
    }

    private static void least() {
        SweptDownhill x = ladder();
        x.set(3, 0, 3);
        x.fall(0, 0, 4, 2);
        x.fall(0, 1, 0, 3);
        leastIs(x, 0, "13 -1 -1 -1");
        leastIs(x, 3, "13 -1 -1 -1");
        x.cart(3, 2);
        leastIs(x, 0, "13 -1 -1 -1");
        leastIs(x, 1, "10 1 -1 -1");
        leastIs(x, 2, "0 0 1 -1");
        leastIs(x, 3, "0 0 1 -1");
        x.set(1, 1, 4);
        leastIs(x, 2, "10 1 -1 -1");
        leastIs(x, 3, "0 1 0 1");
        x.set(1, 2, 2);
        leastIs(x, 3, "13 -1 -1 -1");
        x.set(1, 2, 99);
        x.sweep(3, 1);
        leastIs(x, 0, "10 -1 -1 -1");
        leastIs(x, 2, "0 0 1 -1");
        x.cart(2, 1);
        leastIs(x, 0, "10 -1 -1 -1");
        x.set(3, 0, 2);
        leastIs(x, 1, "10 -1 -1 -1");
        x.set(1, 1, 5);
        leastIs(x, 1, "0 0 -1 -1");
        x.set(0, 4, 0);
        leastIs(x, 1, "0 -1 -1 -1");
        int[][] bad = {{-1, 0}, {4, 0}, {0, -2}, {0, 3}};
        for (int[] b : bad) {
            refused(x, "least", BAD, i -> (long) x.least(b[0], b[1]));
        }
        SweptDownhill twin = town("950", "01;02;02;12");
        twin.fall(0, 0, 0, 1);
        twin.cart(59, 2);
        leastIs(twin, 3, "0 1 -1 -1");
        twin.set(1, 2, 0);
        leastIs(twin, 3, "1 -1 -1 -1");
        twin.set(1, 2, 1);
        twin.fall(0, 1, 0, 1);
        leastIs(twin, 3, "1 1 -1 -1");
    }

    private static void nets() {
        SweptDownhill x = town("95520", "01;02;13;23;34");
        rowIs("from", "0 1 1 7 15 -2", row(d -> (long) x.nets(d, 0), 6));
        rowIs("to", "30 24 24 16 0 -2", row(d -> (long) x.nets(d, 1), 6));
        is("door -1", BAD, x.nets(-1, 0));
        is("what 2", BAD, x.nets(0, 2));
        is("what -1", BAD, x.nets(0, -1));
        SweptDownhill y = town("0123456789".substring(0, 8), "10;21;32;43;54;65;76");
        rowIs("up the ladder", "254 252 248 240 224 192 128 0", row(d -> (long) y.nets(d, 0), 8));
        rowIs("down the ladder", "0 1 3 7 15 31 63 127", row(d -> (long) y.nets(d, 1), 8));
        y.wipe(1);
        is("no STREETS", 0, y.nets(7, 1));
    }

    private static void cutIs(String doors, String streets, int from, int to, int many, int bits) {
        SweptDownhill x = town(doors, streets);
        is(streets + " many", many, x.cut(from, to, 0));
        is(streets + " bits", bits, x.cut(from, to, 1));
    }

    private static void cut() {
        cutIs("95520", "01;02;13;23;34", 0, 4, 1, 16);
        cutIs("95520", "01;02;13;23;34", 0, 3, 2, 3);
        cutIs("95520", "01;02;13;23;34", 0, 1, 1, 1);
        cutIs("95520", "01;02;13;23;34", 4, 0, 0, 0);
        cutIs("95520", "01;02;13;23;34", 1, 2, 0, 0);
        cutIs("95520", "34;23;13;02;01", 0, 3, 2, 6);
        cutIs("95520", "34;13;02;23;01", 0, 3, 2, 6);
        cutIs("95", "01;01;01", 0, 1, 3, 7);
        cutIs("95", "01;01;01;01;01;01;01;01;01;01;01;01", 0, 1, 12, 4095);
        cutIs("95", "", 0, 1, 0, 0);
        cutIs("7531", "01;12;23", 0, 3, 1, 1);
        cutIs("950", "01;01;01;12", 0, 1, 3, 7);
        cutIs("950", "12;01;01;01", 0, 1, 3, 14);
        SweptDownhill x = town("95520", "01;02;13;23;34");
        int[][] bad = {{0, 0, 0}, {-1, 0, 0}, {5, 0, 0}, {0, -1, 0}, {0, 5, 1}, {0, 1, -1}, {0, 1, 2}};
        for (int[] b : bad) {
            refused(x, "cut", BAD, i -> (long) x.cut(b[0], b[1], b[2]));
        }
        is("no doors", BAD, new SweptDownhill().cut(0, 1, 0));
    }

    private static void bribe() {
        SweptDownhill x = ladder();
        x.set(3, 0, 5);
        x.fall(5, 0, 4, 3);
        x.fall(5, 1, 1, 2);
        x.fall(6, 1, 1, 9);
        rowIs("like PRIDES", "15 15 0", row(w -> (long) x.bribe(0, w), 3));
        x.set(2, 0, 2);
        x.set(2, 1, 7);
        x.set(2, 2, 3);
        x.set(1, 1, 0);
        rowIs("a DEAL, whatever HOLD is", "105 30 75", row(w -> (long) x.bribe(0, w), 3));
        rowIs("no DEAL", "12 28 0", row(w -> (long) x.bribe(1, w), 3));
        rowIs("nothing lies", "0 0 0", row(w -> (long) x.bribe(2, w), 3));
        int[][] bad = {{-1, 0}, {3, 0}, {0, -1}, {0, 3}};
        for (int[] b : bad) {
            refused(x, "bribe", BAD, i -> (long) x.bribe(b[0], b[1]));
        }
    }

    private static void rests() {
        SweptDownhill x = ladder();
        is("nothing lies", 7, x.rests());
        x.fall(0, 0, 0, 1);
        x.fall(0, 1, 0, 1);
        x.fall(0, 2, 0, 1);
        is("like PRIDES", 7, x.rests());
        x.set(2, 1, 2);
        is("0 to 1 has a DEAL", 6, x.rests());
        x.set(2, 3, 9);
        is("2 to 3, too", 2, x.rests());
        x.set(0, 0, 0);
        is("for nothing", 7, x.rests());
        x.wipe(1);
        is("no STREETS", 0, x.rests());
    }

    private static void oddsIs(SweptDownhill x, int sixteenths, int above, int below) {
        is("odds " + sixteenths + " above", above, x.odds(sixteenths, 0));
        is("odds " + sixteenths + " below", below, x.odds(sixteenths, 1));
    }

    private static void odds() {
        SweptDownhill x = town("95", "01");
        x.set(3, 0, 4);
        x.fall(4, 0, 0, 3);
        x.cart(4, 1);
        oddsIs(x, 0, 3, 1);
        oddsIs(x, 16, 0, 1);
        oddsIs(x, 1, 45, 16);
        oddsIs(x, 2, 21, 8);
        oddsIs(x, 4, 9, 4);
        oddsIs(x, 8, 3, 2);
        oddsIs(x, 15, 3, 16);
        x.rain(4, 1);
        oddsIs(x, 1, 45, 16);
        oddsIs(x, 16, 0, 1);
        x.rain(3, 1);
        oddsIs(x, 0, 3, 1);
        x.set(3, 0, 5);
        oddsIs(x, 8, 0, 1);
        x.fall(5, 0, 4, 1);
        oddsIs(x, 16, 5, 1);
        is("RAIN stays told", 1, x.rain(4, 1));
        is("what lies stays", 5, x.fine(0));
        SweptDownhill y = new SweptDownhill();
        oddsIs(y, 7, 0, 1);
        refused(y, "17", LEAST_LONG + 2, i -> y.odds(17, 0));
        refused(y, "-1", LEAST_LONG + 2, i -> y.odds(-1, 0));
        refused(y, "what 2", LEAST_LONG + 2, i -> y.odds(0, 2));
        refused(y, "what -1", LEAST_LONG + 2, i -> y.odds(0, -1));
    }

    private static void waits() {
        SweptDownhill x = ladder();
        x.set(3, 0, 4);
        refused(x, "no SWEEP", NOT, i -> (long) x.waits(0));
        is("BAD ahead of NOT", BAD, x.waits(17));
        x.fall(4, 0, 0, 3);
        x.cart(4, 3);
        x.sweep(4, 0);
        is("like without it", 0, x.waits(8));
        x.undo(2);
        x.cart(4, 0);
        is("the CART would take it", 1, x.waits(0));
        is("it may rain", 1, x.waits(15));
        is("it rains: like without it", 0, x.waits(16));
        x.sweep(5, 0);
        is("the last is behind NINE", 0, x.waits(0));
        x.undo(1);
        x.sweep(3, 0);
        is("the last told, not the last by minutes", 0, x.waits(0));
        x.undo(1);
        x.undo(2);
        x.cart(4, 1);
        is("it is good to sweep", 0, x.waits(0));
        is("SWEEPS stay told", 1, x.count(5));
        refused(x, "17", BAD, i -> (long) x.waits(17));
        refused(x, "-1", BAD, i -> (long) x.waits(-1));
    }

    private static void who() {
        SweptDownhill x = ladder();
        x.set(3, 0, 8);
        x.fall(2, 1, 2, 4);
        x.sweep(3, 0);
        x.sweep(4, 1);
        rowIs("from where it is swept to", "0 0 7 8 -2", row(d -> (long) x.who(0, 2, d), 5));
        rowIs("behind the first", "1 0 6 8", row(d -> (long) x.who(4, 2, d), 4));
        rowIs("behind both", "1 2 4 8", row(d -> (long) x.who(8, 2, d), 4));
        rowIs("of another KIND", "0 0 7 8", row(d -> (long) x.who(0, 4, d), 4));
        x.set(1, 2, 4);
        rowIs("one more is against the LAW", "0 0 0 8", row(d -> (long) x.who(0, 2, d), 4));
        rowIs("of another KIND it stays above", "0 3 4 8", row(d -> (long) x.who(0, 0, d), 4));
        x.cart(8, 2);
        rowIs("a CART takes it", "1 2 0 8", row(d -> (long) x.who(8, 2, d), 4));
        for (int i = 0; i < 19; i++) {
            x.fall(9, 7, 0, 1);
        }
        is("FALLS are FULL", 8, x.who(8, 2, 3));
        int[][] bad = {{-1, 0, 0}, {9, 0, 0}, {60, 0, 0}, {0, -1, 0}, {0, 5, 0}, {0, 0, -1}, {0, 0, 4}};
        for (int[] b : bad) {
            refused(x, "who", BAD, i -> (long) x.who(b[0], b[1], b[2]));
        }
    }

    private static void origin() {
        SweptDownhill x = ladder();
        x.set(3, 0, 8);
        x.fall(0, 0, 2, 1);
        x.fall(0, 1, 2, 2);
        x.fall(0, 1, 3, 2);
        rowIs("where it fell", "1 2 0 0", row(d -> (long) x.origin(d, 2), 4));
        x.sweep(1, 0);
        x.sweep(1, 1);
        rowIs("swept", "0 0 3 0 -2", row(d -> (long) x.origin(d, 2), 5));
        rowIs("by KINDS", "0 0 3 2 0", row(k -> (long) x.origin(2, k), 5));
        x.fall(2, 2, 2, 1);
        is("and fell there", 7, x.origin(2, 2));
        x.cart(1, 2);
        is("a CART ahead of it", 4, x.origin(2, 2));
        x.rain(8, 1);
        rowIs("RAIN", "0 0 0 4", row(d -> (long) x.origin(d, 2), 4));
        x.fall(9, 3, 2, 1);
        is("behind NINE", 4, x.origin(3, 2));
        int[][] bad = {{-1, 0}, {4, 0}, {0, -1}, {0, 5}};
        for (int[] b : bad) {
            refused(x, "origin", BAD, i -> (long) x.origin(b[0], b[1]));
        }
    }

    private static void best() {
        SweptDownhill x = ladder();
        is("all like", 0, x.best());
        x.fall(0, 2, 0, 9);
        is("there", 2, x.best());
        x.fall(0, 1, 4, 2);
        is("by FINES", 1, x.best());
        x.set(0, 4, 4);
        x.fall(0, 1, 0, 1);
        is("of like ones the least", 1, x.best());
        x.cart(59, 1);
        is("taken already", 2, x.best());
        x.sweep(59, 2);
        is("behind the SWEEPS", 3, x.best());
        x.wipe(1);
        x.wipe(0);
        is("no DOORS", NONE, x.best());
    }

    private static void sheet() {
        SweptDownhill x = new SweptDownhill();
        is("bytes", 48, x.sheet(0, 0, 48));
        is("shorts", 1, x.sheet(1, 1, 1));
        is("ints of none", 0, x.sheet(3, 2, 0));
        rowIs("0 at first", "0 0 0", row(i -> (long) x.get(0, 0, i), 3));
        x.put(0, 0, 47, 5);
        x.put(0, 0, 0, 5);
        is("anew", 48, x.sheet(0, 2, 48));
        is("0 again", 0, x.get(0, 2, 47));
        is("0 again, too", 0, x.get(0, 2, 0));
        is("of its new FORM", LEAST_INT, x.get(0, 0, 47));
        refused(x, "SIZE", SIZE, i -> (long) x.sheet(0, 0, -1));
        is("FINDING", 5, x.count(8));
        refused(x, "SIZE of the least", SIZE, i -> (long) x.sheet(0, 0, LEAST_INT));
        int[][] bad = {{-1, 0, 0}, {4, 0, 0}, {0, -1, 0}, {0, 3, 0}, {0, 0, 49}, {4, 0, -1}, {0, 3, -1}};
        for (int[] b : bad) {
            refused(x, "sheet", BAD, i -> (long) x.sheet(b[0], b[1], b[2]));
        }
        is("as it was", 48, x.lose(0));
        is("of one", 1, x.lose(1));
        is("LOST still", NULL, x.lose(2));
        is("of none", 0, x.lose(3));
    }

    private static void lose() {
        SweptDownhill x = new SweptDownhill();
        is("NULL", NULL, x.lose(2));
        is("FINDING", 1, x.count(8));
        x.sheet(2, 1, 7);
        x.put(2, 1, 3, 9);
        is("seven", 7, x.lose(2));
        is("NULL again", NULL, x.lose(2));
        is("no item", LEAST_INT, x.get(2, 1, 3));
        x.sheet(2, 1, 4);
        is("a new row", 0, x.get(2, 1, 3));
        refused(x, "sheet 4", BAD, i -> (long) x.lose(4));
        refused(x, "sheet -1", BAD, i -> (long) x.lose(-1));
    }

    private static void put() {
        SweptDownhill x = new SweptDownhill();
        int[] given = {127, 128, 255, 256, 32768, 65535, 65536, -1, -129, LEAST_INT};
        String[] kept = {"127 -128 -1 0 0 -1 0 -1 127 0",
            "127 128 255 256 -32768 -1 0 -1 -129 0",
            "127 128 255 256 32768 65535 65536 -1 -129 -2147483648"};
        for (int form = 0; form < 3; form++) {
            int f = form;
            x.sheet(f, f, 10);
            for (int i = 0; i < 10; i++) {
                is("put", 1, x.put(f, f, i, given[i]));
            }
            rowIs("form " + f, kept[f], row(i -> (long) x.get(f, f, i), 10));
        }
        is("NULL", NULL, x.put(3, 0, 99, 1));
        is("FINDING NULL", 1, x.count(8));
        is("CAST ahead of INDEX", CAST, x.put(0, 1, 99, 1));
        is("FINDING CAST", 3, x.count(8));
        is("INDEX", INDEX, x.put(0, 0, 10, 1));
        is("FINDING INDEX", 2, x.count(8));
        is("INDEX -1", INDEX, x.put(0, 0, -1, 1));
        is("INDEX least", INDEX, x.put(0, 0, LEAST_INT, 1));
        is("BAD ahead of NULL", BAD, x.put(3, 3, 0, 1));
        int[][] bad = {{-1, 0}, {4, 0}, {0, -1}, {0, 3}};
        for (int[] b : bad) {
            refused(x, "put", BAD, i -> (long) x.put(b[0], b[1], 0, 1));
        }
        is("BAD is no FINDING", 2, x.count(8));
        rowIs("as they were", kept[0], row(i -> (long) x.get(0, 0, i), 10));
    }

    private static void get() {
        SweptDownhill x = new SweptDownhill();
        x.sheet(0, 2, 2);
        x.put(0, 2, 1, -7);
        is("item", -7, x.get(0, 2, 1));
        is("NULL", LEAST_INT, x.get(1, 2, 9));
        is("FINDING NULL", 1, x.count(8));
        is("CAST", LEAST_INT, x.get(0, 1, 9));
        is("FINDING CAST", 3, x.count(8));
        is("INDEX", LEAST_INT, x.get(0, 2, 2));
        is("FINDING INDEX", 2, x.count(8));
        x.lose(1);
        int[][] bad = {{-1, 0}, {4, 0}, {0, -1}, {0, 3}};
        for (int[] b : bad) {
            refused(x, "get", LEAST_INT, i -> (long) x.get(b[0], b[1], 0));
            is("BAD is no FINDING", 1, x.count(8));
        }
        is("INDEX -1", LEAST_INT, x.get(0, 2, -1));
        is("FINDING INDEX -1", 2, x.count(8));
    }

    private static void copy() {
        SweptDownhill x = new SweptDownhill();
        x.sheet(0, 1, 5);
        x.sheet(1, 1, 3);
        x.sheet(2, 2, 5);
        for (int i = 0; i < 5; i++) {
            x.put(0, 1, i, i + 1);
        }
        is("copy", 1, x.copy(0, 2, 1, 1, 2));
        rowIs("copied", "0 3 4", row(i -> (long) x.get(1, 1, i), 3));
        is("onto itself, up", 1, x.copy(0, 0, 0, 1, 4));
        rowIs("as they were", "1 1 2 3 4", row(i -> (long) x.get(0, 1, i), 5));
        is("onto itself, down", 1, x.copy(0, 1, 0, 0, 4));
        rowIs("as they were, too", "1 2 3 4 4", row(i -> (long) x.get(0, 1, i), 5));
        is("none, at the ends", 1, x.copy(0, 5, 1, 3, 0));
        is("a whole row", 1, x.copy(0, 0, 0, 0, 5));
        int[][] index = {{6, 0, 0}, {0, 4, 0}, {-1, 0, 1}, {0, -1, 1}, {0, 0, -1}, {0, 0, 4}, {3, 0, 3}, {0, 1, 3},
            {0, 0, Integer.MAX_VALUE}, {Integer.MAX_VALUE, 0, 1}, {0, Integer.MAX_VALUE, 1}, {LEAST_INT, 0, 1},
            {-1, 0, 0}, {0, -1, 0}};
        for (int[] b : index) {
            refused(x, "INDEX", INDEX, i -> (long) x.copy(0, b[0], 1, b[1], b[2]));
            is("FINDING INDEX", 2, x.count(8));
        }
        is("STORE ahead of INDEX", STORE, x.copy(0, 9, 2, 9, -1));
        is("FINDING STORE", 4, x.count(8));
        is("NULL ahead of STORE", NULL, x.copy(0, 0, 3, 0, 0));
        is("NULL first", NULL, x.copy(3, 9, 2, 0, 0));
        is("FINDING NULL", 1, x.count(8));
        int[][] bad = {{-1, 0}, {4, 0}, {0, -1}, {0, 4}, {4, 3}, {3, 4}};
        for (int[] b : bad) {
            refused(x, "copy", BAD, i -> (long) x.copy(b[0], 0, b[1], 0, 0));
        }
        rowIs("as they were still", "1 2 3 4 4", row(i -> (long) x.get(0, 1, i), 5));
        rowIs("the other, too", "0 3 4", row(i -> (long) x.get(1, 1, i), 3));
    }

    private static void write() {
        SweptDownhill x = ladder();
        x.set(3, 0, 2);
        x.fall(0, 0, 0, 4);
        x.fall(1, 0, 1, 3);
        x.fall(1, 2, 4, 8);
        x.fall(2, 3, 0, 1);
        x.sheet(0, 2, 6);
        x.put(0, 2, 4, 77);
        is("as many as DOORS", 4, x.write(1, 0));
        rowIs("written", "7 0 8 0 77 0", row(i -> (long) x.get(0, 2, i), 6));
        x.sheet(1, 0, 2);
        is("as many as items", 2, x.write(0, 1));
        rowIs("few", "4 0", row(i -> (long) x.get(1, 0, i), 2));
        is("in NINE", 4, x.write(2, 0));
        rowIs("behind NINE", "7 0 8 1 77 0", row(i -> (long) x.get(0, 2, i), 6));
        refused(x, "NULL", NULL, i -> (long) x.write(0, 2));
        is("FINDING", 1, x.count(8));
        int[][] bad = {{-1, 0}, {3, 0}, {60, 0}, {0, -1}, {0, 4}, {3, 2}};
        for (int[] b : bad) {
            refused(x, "write", BAD, i -> (long) x.write(b[0], b[1]));
        }
        SweptDownhill heap = town("0", "");
        for (int i = 0; i < 20; i++) {
            heap.fall(0, 0, 0, 9);
        }
        heap.sheet(0, 0, 1);
        heap.sheet(1, 1, 1);
        is("a byte", 1, heap.write(0, 0));
        is("the lowest bits of 180", -76, heap.get(0, 0, 0));
        is("a short", 1, heap.write(0, 1));
        is("180", 180, heap.get(1, 1, 0));
    }

    private static void count() {
        SweptDownhill x = town("950", "01;12");
        x.fall(0, 0, 0, 1);
        x.sweep(0, 0);
        x.sweep(0, 0);
        x.cart(0, 0);
        x.cart(0, 0);
        x.cart(0, 0);
        x.set(3, 0, 30);
        rowIs("counts", "3 2 3 5 1 2 3 30 0 -2", row(i -> (long) x.count(i), 10));
        is("what -1", BAD, x.count(-1));
        x.type(1, ';');
        x.lose(0);
        rowIs("with a FAULT", "3 0 3 6 1 2 3 30 1", row(i -> (long) x.count(i), 9));
        x.sheet(0, 0, -1);
        is("the latest", 5, x.count(8));
        x.count(9);
        is("BAD is none", 5, x.count(8));
        x.type(0, 'x');
        rowIs("with another FAULT", "0 0 4 6", row(i -> (long) x.count(i), 4));
    }

    /** The digest by its words, from the other calls. */
    private static long folded(SweptDownhill x) {
        long h = 17;
        for (int i = 0; i <= 7; i++) {
            h = Probe.fold(h, x.count(i));
        }
        h = Probe.fold(h, x.fault(0), x.fault(1));
        for (int d = 0; d < x.count(0); d++) {
            h = Probe.fold(h, x.height(d), x.fine(d), x.nets(d, 0), x.nets(d, 1));
            h = Probe.fold(h, x.origin(d, 0), x.origin(d, 1), x.origin(d, 2), x.origin(d, 3), x.origin(d, 4));
            h = Probe.fold(h, x.lies(d, 0, NONE));
        }
        for (int s = 0; s < x.count(1); s++) {
            h = Probe.fold(h, x.street(s, 0), x.street(s, 1), x.bribe(s, 0), x.bribe(s, 1), x.bribe(s, 2));
        }
        h = Probe.fold(h, x.fine(NONE), x.judged(), x.least(1, NONE), x.least(1, 0), x.least(2, NONE));
        h = Probe.fold(h, x.cut(0, 1, 0), x.cut(0, 1, 1), x.rests(), x.odds(4, 0), x.odds(4, 1));
        return Probe.fold(h, x.who(0, 0, 0), x.best());
    }

    private static void digest() {
        is("a new object", Probe.fold(17, 0, 0, 0, 0, 0, 0, 0, 59, -1, -1, 0, -1, 0, -1, 0, -2, -2, 0, 0, 1, -2, -1),
            new SweptDownhill().digest());
        SweptDownhill one = town("7", "");
        is("one DOOR", Probe.fold(17, 1, 0, 1, 0, 0, 0, 0, 59, -1, -1, 7, 0, 0, 0, 0, 0, 0, 0, 0, 0,
            0, -1, 0, -1, 0, -2, -2, 0, 0, 1, 1, 0), one.digest());
        is("FAULTS", Probe.fold(17, 0, 0, 2, 1, 0, 0, 0, 59, 1, 0, 0, -1, 0, -1, 0, -2, -2, 0, 0, 1, -2, -1),
            town("7x", "0").digest());
        digestOfTown();
        for (int steps = 0; steps <= 14; steps++) {
            SweptDownhill x = townAfter(steps);
            is("folded after " + steps, folded(x), x.digest());
        }
        SweptDownhill x = townAfter(14);
        long before = x.digest();
        x.lose(0);
        is("a FINDING is not in it", before, x.digest());
    }

    /** A new object each time, as an object answers 512 calls and no more. */
    private static SweptDownhill townAfter(int steps) {
        SweptDownhill x = town("95520", "01;02;13;23;34");
        x.set(3, 0, 9);
        x.set(2, 3, 6);
        x.set(1, 3, 7);
        for (int i = 0; i < steps && i < 12; i++) {
            x.fall(i, (i * 3) % 5, i % 5, i % 9 + 1);
            x.sweep(i, i % 6);
        }
        if (steps > 12) {
            x.cart(9, 4);
            x.cart(9, 1);
            x.rain(9, 1);
        }
        x.rain(4, steps > 13 ? 1 : 0);
        return x;
    }

    /** A town small enough that all its answers are found by hand. */
    private static void digestOfTown() {
        SweptDownhill x = town("9630", "12;01;23;02");
        x.set(3, 0, 2);
        x.set(2, 1, 3);
        x.fall(0, 0, 1, 2);
        x.fall(1, 1, 3, 1);
        x.fall(2, 3, 4, 1);
        x.fall(2, 2, 0, 3);
        x.sweep(1, 5);
        x.cart(2, 3);
        long h = Probe.fold(17, 4, 4, 4, 11, 4, 1, 1, 2, -1, -1);
        h = Probe.fold(h, 9, 4, 0, 14, 0, 1, 0, 0, 0, 2);
        h = Probe.fold(h, 6, 4, 1, 12, 0, 0, 0, 2, 0, 0);
        h = Probe.fold(h, 3, 3, 3, 8, 4, 0, 0, 0, 0, 0);
        h = Probe.fold(h, 0, 0, 7, 0, 0, 0, 0, 0, 0, 0);
        h = Probe.fold(h, 1, 2, 4, 12, 0, 0, 1, 12, 4, 8);
        h = Probe.fold(h, 2, 3, 3, 3, 0, 0, 2, 4, 4, 0);
        h = Probe.fold(h, 11, 0, 8, 2, 4, 1, 2, 13, 33, 4, 1, 0);
        is("a town", h, x.digest());
    }
}
