import java.util.ArrayDeque;
import java.util.ArrayList;
import java.util.Comparator;
import java.util.List;
import java.util.TreeSet;

/**
 * Long runs of calls, half by chance, on the class and on a second program that moves each barrow by itself, tries
 * all rows and sets one by one, and keeps sheets as rows of the Java machine. The chance is a fixed row of numbers.
 */
public final class ModelTests {
    private static final int OBJECTS = 2500;
    private static final int CALLS = 320;

    public static void main(String[] args) {
        Chance chance = new Chance(20261119);
        int calls = 0;
        for (int object = 0; object < OBJECTS; object++) {
            Script script = new Script(new Pair(new SweptDownhill(), new Model()), chance);
            if (object % 2 == 0) {
                script.begin();
                while (script.p.calls < CALLS) {
                    script.step();
                }
            } else {
                script.scene();
            }
            calls += script.p.calls;
            if (script.p.wrong != null) {
                System.out.println("object " + object + ": " + script.p.wrong);
                System.exit(1);
            }
        }
        System.out.println(calls + " calls answered like the model");
    }

    private static final class Chance {
        private long state;

        Chance(long seed) {
            state = seed;
        }

        int below(int end) {
            state = state * 6364136223846793005L + 1442695040888963407L;
            return (int) Long.remainderUnsigned(state >>> 33, end);
        }

        boolean oneIn(int n) {
            return below(n) == 0;
        }

        /** Mostly from low to high, now and then just beside it or far off. */
        int about(int low, int high) {
            if (oneIn(40)) {
                return low - 1;
            }
            if (oneIn(40)) {
                return high + 1;
            }
            if (oneIn(400)) {
                return oneIn(2) ? Integer.MIN_VALUE : Integer.MAX_VALUE;
            }
            return high < low ? low : low + below(high - low + 1);
        }
    }

    private static final class Pair {
        final SweptDownhill real;
        final Model model;
        final StringBuilder told = new StringBuilder();
        int calls = 0;
        String wrong = null;

        Pair(SweptDownhill real, Model model) {
            this.real = real;
            this.model = model;
        }

        void like(String call, long got, long want) {
            calls++;
            told.append(call).append(" = ").append(got).append('\n');
            if (got != want && wrong == null) {
                wrong = told + "but the model answers " + want;
            }
        }
    }

    private static final class Script {
        final Pair p;
        final SweptDownhill x;
        final Model m;
        final Chance c;

        Script(Pair pair, Chance chance) {
            p = pair;
            x = pair.real;
            m = pair.model;
            c = chance;
        }

        void typeByte(int text, int b) {
            p.like("type(" + text + ", " + b + ")", x.type(text, b), m.type(text, b));
        }

        void begin() {
            typeTown();
            if (!c.oneIn(8)) {
                int nine = c.below(8);
                p.like("set(3, 0, " + nine + ")", x.set(3, 0, nine), m.set(3, 0, nine));
            }
            for (int s = 0; s < 3; s++) {
                int form = c.below(3), n = c.below(12);
                p.like("sheet(" + s + ", " + form + ", " + n + ")", x.sheet(s, form, n), m.sheet(s, form, n));
            }
            for (int i = 0; i < 5; i++) {
                change(0);
            }
        }

        private void typeTown() {
            int doors = 2 + c.below(7);
            for (int i = 0; i < doors; i++) {
                typeByte(0, '0' + c.below(c.oneIn(3) ? 3 : 10));
            }
            typeStreets(1 + c.below(12));
        }

        /** A busy town with a few CARTS in NINE, of which nearly all is asked. */
        void scene() {
            typeTown();
            p.like("NINE", x.set(3, 0, 5), m.set(3, 0, 5));
            int doors = m.heights().size();
            for (int i = 0; i < 8; i++) {
                int hold = c.oneIn(3) ? 99 : 5 + c.below(25), pride = 1 + c.below(9);
                p.like("HOLD " + i + " " + hold, x.set(1, i, hold), m.set(1, i, hold));
                p.like("PRIDE " + i + " " + pride, x.set(2, i, pride), m.set(2, i, pride));
            }
            for (int i = 4 + c.below(12); i > 0; i--) {
                int a = c.below(6), d = c.below(doors), k = c.below(5), n = 1 + c.below(9);
                p.like("fall(" + a + ", " + d + ", " + k + ", " + n + ")", x.fall(a, d, k, n), m.fall(a, d, k, n));
            }
            for (int i = c.below(8); i > 0; i--) {
                int a = c.below(6), s = c.below(Math.max(m.streets().size(), 1));
                p.like("sweep(" + a + ", " + s + ")", x.sweep(a, s), m.sweep(a, s));
            }
            for (int i = c.below(4); i > 0; i--) {
                int a = c.oneIn(4) ? c.below(6) : 5, d = c.below(doors);
                p.like("cart(" + a + ", " + d + ")", x.cart(a, d), m.cart(a, d));
            }
            for (int i = c.below(3); i > 0; i--) {
                int a = c.below(6);
                p.like("rain(" + a + ", 1)", x.rain(a, 1), m.rain(a, 1));
            }
            askOfRun();
            askOfDoors();
        }

        private void askOfRun() {
            for (int k = 0; k < (c.oneIn(5) ? 4 : 3); k++) {
                for (int i = -1; i < 3; i++) {
                    p.like("least(" + k + ", " + i + ")", x.least(k, i), m.least(k, i));
                }
            }
            for (int i = 0; i < 3; i++) {
                int o = c.below(17);
                p.like("odds(" + o + ", 0)", x.odds(o, 0), m.odds(o, 0));
                p.like("odds(" + o + ", 1)", x.odds(o, 1), m.odds(o, 1));
                p.like("waits(" + o + ")", x.waits(o), m.waits(o));
            }
            for (int s = 0; s < m.streets().size(); s++) {
                for (int what = 0; what < 3; what++) {
                    p.like("bribe(" + s + ", " + what + ")", x.bribe(s, what), m.bribe(s, what));
                }
            }
            p.like("rests()", x.rests(), m.rests());
            p.like("judged()", x.judged(), m.judged());
            p.like("best()", x.best(), m.best());
            p.like("fine(-1)", x.fine(-1), m.fine(-1));
            p.like("digest()", x.digest(), m.digest());
        }

        private void askOfDoors() {
            for (int d = 0; d < m.heights().size(); d++) {
                int a = c.below(6);
                for (int k = 0; k < 5; k++) {
                    p.like("lies(" + d + ", " + a + ", " + k + ")", x.lies(d, a, k), m.lies(d, a, k));
                    p.like("who(" + a + ", " + k + ", " + d + ")", x.who(a, k, d), m.who(a, k, d));
                    p.like("origin(" + d + ", " + k + ")", x.origin(d, k), m.origin(d, k));
                }
                for (int e = 0; e < m.heights().size(); e++) {
                    p.like("cut(" + d + ", " + e + ", 1)", x.cut(d, e, 1), m.cut(d, e, 1));
                }
                for (int what = 0; what < 2; what++) {
                    p.like("nets(" + d + ", " + what + ")", x.nets(d, what), m.nets(d, what));
                }
            }
        }

        private void wipeText(int text) {
            p.like("wipe(" + text + ")", x.wipe(text), m.wipe(text));
        }

        private void typeStreets(int streets) {
            List<String> ways = new ArrayList<>();
            for (int a = 0; a < m.heights().size(); a++) {
                for (int b = 0; b < m.heights().size(); b++) {
                    if (m.heights().get(b) < m.heights().get(a)) {
                        ways.add("" + a + b);
                    }
                }
            }
            for (int i = 0; i < streets && !ways.isEmpty(); i++) {
                String way = (i == 0 ? "" : ";") + ways.get(c.below(ways.size()));
                for (char sign : way.toCharArray()) {
                    typeByte(1, sign);
                }
            }
        }

        void step() {
            int kind = c.below(100);
            if (kind < 2) {
                texts();
            } else if (kind < 35) {
                change(c.below(12));
            } else if (kind < 50) {
                sheets();
            } else {
                questions();
            }
        }

        /** Bytes of all sorts, and mostly a whole town anew behind them. */
        private void texts() {
            if (c.oneIn(2)) {
                wipeText(c.about(0, 1));
            }
            int many = c.below(12);
            for (int i = 0; i < many; i++) {
                typeByte(c.about(0, 1), c.oneIn(10) ? c.about(0, 255) : "0123456789;x".charAt(c.below(12)));
                faults();
            }
            if (!c.oneIn(10)) {
                wipeText(0);
                wipeText(1);
                typeTown();
            }
            faults();
        }

        private void faults() {
            for (int i = 0; i < 2; i++) {
                p.like("fault(" + i + ")", x.fault(i), m.fault(i));
            }
        }

        private int minute() {
            return c.oneIn(4) ? c.about(0, 59) : c.about(0, Math.min(m.nine, 9));
        }

        private int lateMinute() {
            return c.oneIn(3) ? m.nine : minute();
        }

        private int door() {
            return c.oneIn(20) ? c.about(0, 7) : c.about(0, m.heights().size() - 1);
        }

        private int street() {
            return c.oneIn(20) ? c.about(0, 11) : c.about(0, m.streets().size() - 1);
        }

        private void change(int sort) {
            switch (sort) {
                case 0: case 1: case 8: {
                    int a = minute(), b = door(), k = c.about(0, 4), n = c.about(1, 9);
                    p.like("fall(" + a + ", " + b + ", " + k + ", " + n + ")", x.fall(a, b, k, n), m.fall(a, b, k, n));
                    break;
                }
                case 2: case 3: case 9: {
                    int a = lateMinute(), s = street();
                    p.like("sweep(" + a + ", " + s + ")", x.sweep(a, s), m.sweep(a, s));
                    break;
                }
                case 4: {
                    int a = c.oneIn(4) ? minute() : m.nine, b = door();
                    p.like("cart(" + a + ", " + b + ")", x.cart(a, b), m.cart(a, b));
                    break;
                }
                case 5: {
                    int a = lateMinute(), v = c.about(0, 1);
                    p.like("rain(" + a + ", " + v + ")", x.rain(a, v), m.rain(a, v));
                    break;
                }
                case 6: {
                    int what = c.oneIn(3) ? 2 : c.about(0, 2);
                    p.like("undo(" + what + ")", x.undo(what), m.undo(what));
                    break;
                }
                default: {
                    int what = c.oneIn(3) ? c.about(0, 3) : 1 + c.below(2);
                    int k = what == 3 && !c.oneIn(9) ? 0 : c.about(0, what == 0 ? 4 : 7);
                    int v = what == 1 && c.oneIn(2) ? c.about(0, 30)
                        : what == 3 && !c.oneIn(8) ? c.about(0, 9) : c.about(0, what == 1 ? 99 : what == 3 ? 59 : 9);
                    p.like("set(" + what + ", " + k + ", " + v + ")", x.set(what, k, v), m.set(what, k, v));
                }
            }
            if (c.oneIn(4)) {
                p.like("fine(-1)", x.fine(-1), m.fine(-1));
            }
        }

        private void sheets() {
            int s = c.about(0, 3);
            int form = c.oneIn(3) ? c.about(0, 2) : m.formOf(s);
            int i = c.about(0, m.sizeOf(s));
            switch (c.below(9)) {
                case 0: {
                    int f = c.about(0, 2), n = c.oneIn(3) ? c.about(0, 48) : c.about(0, 9);
                    p.like("sheet(" + s + ", " + f + ", " + n + ")", x.sheet(s, f, n), m.sheet(s, f, n));
                    break;
                }
                case 1:
                    if (c.oneIn(8)) {
                        p.like("lose(" + s + ")", x.lose(s), m.lose(s));
                    }
                    break;
                case 2: case 3: {
                    int v = c.oneIn(3) ? c.below(1 << 18) - (1 << 17) : c.about(0, 99);
                    p.like("put(" + s + ", " + form + ", " + i + ", " + v + ")", x.put(s, form, i, v), m.put(s, form, i, v));
                    break;
                }
                case 4: {
                    int t = c.about(0, 3), j = c.about(0, m.sizeOf(t)), n = c.about(0, 5);
                    p.like("copy(" + s + ", " + i + ", " + t + ", " + j + ", " + n + ")",
                        x.copy(s, i, t, j, n), m.copy(s, i, t, j, n));
                    break;
                }
                case 5: {
                    int a = lateMinute();
                    p.like("write(" + a + ", " + s + ")", x.write(a, s), m.write(a, s));
                    break;
                }
                case 6:
                    if (c.oneIn(8)) {
                        p.like("read(" + s + ")", x.read(s), m.read(s));
                    }
                    break;
                default:
                    p.like("get(" + s + ", " + form + ", " + i + ")", x.get(s, form, i), m.get(s, form, i));
            }
            p.like("count(8)", x.count(8), m.count(8));
        }

        private void questions() {
            int d = door(), e = door(), s = street(), a = lateMinute(), w = c.about(0, 1);
            switch (c.below(17)) {
                case 0: p.like("height(" + d + ")", x.height(d), m.height(d)); break;
                case 1: p.like("street(" + s + ", " + w + ")", x.street(s, w), m.street(s, w)); break;
                case 2: case 3: {
                    int k = c.about(-1, 4);
                    p.like("lies(" + d + ", " + a + ", " + k + ")", x.lies(d, a, k), m.lies(d, a, k));
                    break;
                }
                case 4: p.like("fine(" + d + ")", x.fine(d), m.fine(d)); break;
                case 5: p.like("judged()", x.judged(), m.judged()); break;
                case 6: {
                    int k = c.oneIn(8) ? c.about(0, 3) : c.about(0, 2);
                    for (int i = -1; i < 3; i++) {
                        p.like("least(" + k + ", " + i + ")", x.least(k, i), m.least(k, i));
                    }
                    break;
                }
                case 7: p.like("nets(" + d + ", " + w + ")", x.nets(d, w), m.nets(d, w)); break;
                case 8: p.like("cut(" + d + ", " + e + ", " + w + ")", x.cut(d, e, w), m.cut(d, e, w)); break;
                case 9: {
                    int what = c.about(0, 2);
                    p.like("bribe(" + s + ", " + what + ")", x.bribe(s, what), m.bribe(s, what));
                    break;
                }
                case 10: p.like("rests()", x.rests(), m.rests()); break;
                case 11: {
                    int o = c.about(0, 16);
                    p.like("odds(" + o + ", " + w + ")", x.odds(o, w), m.odds(o, w));
                    break;
                }
                case 12: {
                    int o = c.about(0, 16);
                    p.like("waits(" + o + ")", x.waits(o), m.waits(o));
                    break;
                }
                case 13: {
                    int k = c.about(0, 4);
                    p.like("who(" + a + ", " + k + ", " + d + ")", x.who(a, k, d), m.who(a, k, d));
                    break;
                }
                case 14: {
                    int k = c.about(0, 4);
                    p.like("origin(" + d + ", " + k + ")", x.origin(d, k), m.origin(d, k));
                    break;
                }
                case 15: p.like("best()", x.best(), m.best()); break;
                default: {
                    if (c.oneIn(6)) {
                        p.like("digest()", x.digest(), m.digest());
                    } else {
                        int what = c.about(0, 8);
                        p.like("count(" + what + ")", x.count(what), m.count(what));
                    }
                }
            }
        }
    }

    private record Street(int upper, int lower) { }

    private record Act(int minute, int place, int kind, int n) { }

    private static final class Barrow {
        final int kind;
        final int yard;
        int at;

        Barrow(int kind, int yard) {
            this.kind = kind;
            this.yard = yard;
            at = yard;
        }
    }

    /** What lies, and which SWEEPS, told and more ones, the LAW did not let be. */
    private static final class Outcome {
        final List<Barrow> barrows = new ArrayList<>();
        final List<Integer> against = new ArrayList<>();
        boolean moreAgainst = false;

        long at(int door) {
            return barrows.stream().filter(b -> b.at == door).count();
        }

        long at(int door, int kind) {
            return barrows.stream().filter(b -> b.at == door && b.kind == kind).count();
        }

        void move(int from, int to) {
            for (Barrow b : barrows) {
                if (b.at == from) {
                    b.at = to;
                }
            }
        }
    }

    private static final class Model {
        final String[] texts = {"", ""};
        final int[] rates = {1, 2, 3, 4, 5};
        final int[] holds = {99, 99, 99, 99, 99, 99, 99, 99};
        final int[] prides = {1, 1, 1, 1, 1, 1, 1, 1};
        int nine = 59;
        final List<Act> falls = new ArrayList<>();
        final List<Act> sweeps = new ArrayList<>();
        final List<Act> carts = new ArrayList<>();
        final TreeSet<Integer> rains = new TreeSet<>();
        final Object[] rows = new Object[4];
        int finding = 0;
        private String streetsReadFrom = null;
        private List<Street> streetsRead = List.of();
        private String heightsReadFrom = null;
        private List<Integer> heightsRead = List.of();

        // ---- texts

        int type(int text, int b) {
            if (text < 0 || text > 1 || b < 0 || b > 255) {
                return -2;
            }
            if (texts[text].length() == (text == 0 ? 8 : 40)) {
                return -4;
            }
            texts[text] += (char) b;
            return texts[text].length();
        }

        int wipe(int text) {
            if (text < 0 || text > 1) {
                return -2;
            }
            int size = texts[text].length();
            texts[text] = "";
            return size;
        }

        int fault(int text) {
            if (text < 0 || text > 1) {
                return -2;
            }
            if (text == 0) {
                for (int i = 0; i < texts[0].length(); i++) {
                    if (!texts[0].substring(0, i + 1).matches("[0-9]*")) {
                        return i;
                    }
                }
                return -1;
            }
            String t = texts[1];
            for (int i = 0; i < t.length(); i++) {
                if (!viable(t.substring(0, i + 1))) {
                    return i;
                }
            }
            return t.isEmpty() || t.matches("(..;)*..") ? -1 : t.length();
        }

        /** Whether some STREETS, twelve or more, begin so, but for those behind the twelfth. */
        private boolean viable(String begin) {
            int count = 0;
            for (String street : begin.split(";", -1)) {
                count++;
                boolean open = count == begin.split(";", -1).length;
                if (street.length() > 2 || !open && street.length() != 2 || count > 12 && !street.isEmpty()) {
                    return false;
                }
                for (char sign : street.toCharArray()) {
                    if (sign < '0' || sign >= '0' + heights().size()) {
                        return false;
                    }
                }
                if (street.length() == 2
                    && heights().get(street.charAt(1) - '0') >= heights().get(street.charAt(0) - '0')) {
                    return false;
                }
            }
            return true;
        }

        List<Integer> heights() {
            if (!texts[0].equals(heightsReadFrom)) {
                heightsRead = readHeights();
                heightsReadFrom = texts[0];
            }
            return heightsRead;
        }

        private List<Integer> readHeights() {
            List<Integer> heights = new ArrayList<>();
            if (texts[0].matches("[0-9]*")) {
                texts[0].chars().forEach(sign -> heights.add(sign - '0'));
            }
            return heights;
        }

        /** Kept for the texts it was read from, as it is asked for at each step. */
        List<Street> streets() {
            String both = texts[0] + "/" + texts[1];
            if (!both.equals(streetsReadFrom)) {
                streetsRead = readStreets();
                streetsReadFrom = both;
            }
            return streetsRead;
        }

        private List<Street> readStreets() {
            List<Street> streets = new ArrayList<>();
            if (fault(1) == -1 && !texts[1].isEmpty()) {
                for (String s : texts[1].split(";")) {
                    streets.add(new Street(s.charAt(0) - '0', s.charAt(1) - '0'));
                }
            }
            return streets;
        }

        private boolean noDoor(int door) {
            return door < 0 || door >= heights().size();
        }

        int height(int door) {
            return noDoor(door) ? -2 : heights().get(door);
        }

        int street(int street, int what) {
            if (street < 0 || street >= streets().size() || what < 0 || what > 1) {
                return -2;
            }
            return what == 0 ? streets().get(street).upper() : streets().get(street).lower();
        }

        int set(int what, int k, int v) {
            int was = -2;
            if (what == 0 && k >= 0 && k <= 4 && v >= 0 && v <= 9) {
                was = rates[k];
                rates[k] = v;
            } else if (what == 1 && k >= 0 && k <= 7 && v >= 0 && v <= 99) {
                was = holds[k];
                holds[k] = v;
            } else if (what == 2 && k >= 0 && k <= 7 && v >= 1 && v <= 9) {
                was = prides[k];
                prides[k] = v;
            } else if (what == 3 && k == 0 && v >= 0 && v <= 59) {
                was = nine;
                nine = v;
            }
            return was;
        }

        // ---- what comes

        private int add(List<Act> acts, int most, Act act) {
            if (acts.size() == most) {
                return -4;
            }
            acts.add(act);
            return acts.size();
        }

        int fall(int minute, int door, int kind, int n) {
            boolean bad = minute < 0 || minute > 59 || door < 0 || door > 7 || kind < 0 || kind > 4 || n < 1 || n > 9;
            return bad ? -2 : add(falls, 20, new Act(minute, door, kind, n));
        }

        int sweep(int minute, int street) {
            boolean bad = minute < 0 || minute > 59 || street < 0 || street > 11;
            return bad ? -2 : add(sweeps, 24, new Act(minute, street, 0, 0));
        }

        int cart(int minute, int door) {
            boolean bad = minute < 0 || minute > 59 || door < 0 || door > 7;
            return bad ? -2 : add(carts, 8, new Act(minute, door, 0, 0));
        }

        int rain(int minute, int v) {
            if (minute < 0 || minute > 59 || v < 0 || v > 1) {
                return -2;
            }
            int was = rains.contains(minute) ? 1 : 0;
            if (v == 1) {
                rains.add(minute);
            } else {
                rains.remove(minute);
            }
            return was;
        }

        int undo(int what) {
            if (what < 0 || what > 2) {
                return -2;
            }
            List<Act> acts = what == 0 ? falls : what == 1 ? sweeps : carts;
            if (acts.isEmpty()) {
                return -3;
            }
            acts.remove(acts.size() - 1);
            return acts.size();
        }

        // ---- the minutes

        private Outcome outcome(int last) {
            return outcome(last, List.of());
        }

        /** More are SWEEPS behind all others in the last minute, ahead of CARTS. */
        private Outcome outcome(int last, List<Integer> more) {
            Outcome o = new Outcome();
            for (int minute = 0; minute <= last; minute++) {
                for (Act f : falls) {
                    for (int i = 0; f.minute() == minute && !noDoor(f.place()) && i < f.n(); i++) {
                        o.barrows.add(new Barrow(f.kind(), f.place()));
                    }
                }
                if (rains.contains(minute)) {
                    rainOn(o);
                }
                for (int i = 0; i < sweeps.size(); i++) {
                    if (sweeps.get(i).minute() == minute && !sweepOn(o, sweeps.get(i).place())) {
                        o.against.add(i);
                    }
                }
                for (int i = 0; minute == last && i < more.size(); i++) {
                    o.moreAgainst |= !sweepOn(o, more.get(i));
                }
                for (Act cart : carts) {
                    if (cart.minute() == minute) {
                        o.barrows.removeIf(b -> b.at == cart.place());
                    }
                }
            }
            return o;
        }

        private void rainOn(Outcome o) {
            List<Integer> doors = new ArrayList<>();
            for (int d = 0; d < heights().size(); d++) {
                doors.add(d);
            }
            doors.sort(Comparator.comparing((Integer d) -> -heights().get(d)).thenComparing(d -> d));
            for (int d : doors) {
                streets().stream().filter(s -> s.upper() == d).findFirst().ifPresent(s -> o.move(d, s.lower()));
            }
        }

        private boolean sweepOn(Outcome o, int street) {
            if (street >= streets().size()) {
                return false;
            }
            Street s = streets().get(street);
            if (o.at(s.upper()) + o.at(s.lower()) > holds[s.lower()]) {
                return false;
            }
            o.move(s.upper(), s.lower());
            return true;
        }

        private int fineOf(Outcome o) {
            return o.barrows.stream().mapToInt(b -> rates[b.kind]).sum();
        }

        private int fineOf(Outcome o, int door) {
            return o.barrows.stream().filter(b -> b.at == door).mapToInt(b -> rates[b.kind]).sum();
        }

        // ---- what lies

        int lies(int door, int minute, int kind) {
            if (noDoor(door) || minute < 0 || minute > nine || kind < -1 || kind > 4) {
                return -2;
            }
            return (int) (kind == -1 ? outcome(minute).at(door) : outcome(minute).at(door, kind));
        }

        int fine(int door) {
            if (door != -1 && noDoor(door)) {
                return -2;
            }
            return door == -1 ? fineOf(outcome(nine)) : fineOf(outcome(nine), door);
        }

        int judged() {
            int first = -1;
            for (int i : outcome(nine).against) {
                if (first == -1 || sweeps.get(i).minute() < sweeps.get(first).minute()) {
                    first = i;
                }
            }
            return first;
        }

        int least(int k, int i) {
            if (k < 0 || k > 3 || i < -1 || i > 2) {
                return -2;
            }
            List<List<Integer>> rows = new ArrayList<>();
            rows.add(List.of());
            int from = 0;
            for (int size = 1; size <= k; size++) {
                int to = rows.size();
                for (int r = from; r < to; r++) {
                    for (int s = 0; s < streets().size(); s++) {
                        List<Integer> row = new ArrayList<>(rows.get(r));
                        row.add(s);
                        rows.add(row);
                    }
                }
                from = to;
            }
            int least = Integer.MAX_VALUE;
            List<Integer> best = List.of();
            for (List<Integer> row : rows) {
                Outcome o = outcome(nine, row);
                if (!o.moreAgainst && fineOf(o) < least) {
                    least = fineOf(o);
                    best = row;
                }
            }
            return i == -1 ? least : i < best.size() ? best.get(i) : -1;
        }

        // ---- nets, bribes

        private boolean leads(int from, int to, int without) {
            ArrayDeque<Integer> open = new ArrayDeque<>(List.of(from));
            TreeSet<Integer> seen = new TreeSet<>();
            List<Street> streets = streets();
            while (!open.isEmpty()) {
                int door = open.pop();
                for (int s = 0; s < streets.size(); s++) {
                    if ((without & 1 << s) == 0 && streets.get(s).upper() == door && seen.add(streets.get(s).lower())) {
                        open.push(streets.get(s).lower());
                    }
                }
            }
            return seen.contains(to);
        }

        int nets(int door, int what) {
            if (noDoor(door) || what < 0 || what > 1) {
                return -2;
            }
            int bits = 0;
            for (int d = 0; d < heights().size(); d++) {
                if (what == 0 ? leads(d, door, 0) : leads(door, d, 0)) {
                    bits |= 1 << d;
                }
            }
            return bits;
        }

        int cut(int from, int to, int what) {
            if (noDoor(from) || noDoor(to) || from == to || what < 0 || what > 1) {
                return -2;
            }
            for (int many = 0; ; many++) {
                for (int bits = 0; bits < 1 << streets().size(); bits++) {
                    if (Integer.bitCount(bits) == many && !leads(from, to, bits)) {
                        return what == 0 ? many : bits;
                    }
                }
            }
        }

        int bribe(int street, int what) {
            if (street < 0 || street >= streets().size() || what < 0 || what > 2) {
                return -2;
            }
            Street s = streets().get(street);
            Outcome o = outcome(nine);
            int above = fineOf(o, s.upper()) * prides[s.upper()];
            int below = fineOf(o, s.lower()) * prides[s.lower()];
            o.move(s.upper(), s.lower());
            int less = above - fineOf(o, s.upper()) * prides[s.upper()];
            int more = fineOf(o, s.lower()) * prides[s.lower()] - below;
            return what == 0 ? more : what == 1 ? less : more > less ? more - less : 0;
        }

        int rests() {
            int bits = 0;
            for (int s = 0; s < streets().size(); s++) {
                bits |= bribe(s, 2) == 0 ? 1 << s : 0;
            }
            return bits;
        }

        // ---- odds, yards

        private int sumOf16(int sixteenths) {
            boolean told = rains.contains(nine);
            rain(nine, 1);
            int sum = sixteenths * fine(-1);
            rain(nine, 0);
            sum += (16 - sixteenths) * fine(-1);
            rain(nine, told ? 1 : 0);
            return sum;
        }

        long odds(int sixteenths, int what) {
            if (sixteenths < 0 || sixteenths > 16 || what < 0 || what > 1) {
                return Long.MIN_VALUE + 2;
            }
            int above = sumOf16(sixteenths);
            int shared = 16;
            while (above % shared != 0) {
                shared--;
            }
            while (16 % shared != 0 || above % shared != 0) {
                shared--;
            }
            return what == 0 ? above / shared : 16 / shared;
        }

        int waits(int sixteenths) {
            if (sixteenths < 0 || sixteenths > 16) {
                return -2;
            }
            if (sweeps.isEmpty()) {
                return -3;
            }
            int with = sumOf16(sixteenths);
            Act last = sweeps.remove(sweeps.size() - 1);
            int without = sumOf16(sixteenths);
            sweeps.add(last);
            return without < with ? 1 : 0;
        }

        int who(int minute, int kind, int door) {
            if (minute < 0 || minute > nine || kind < 0 || kind > 4 || noDoor(door)) {
                return -2;
            }
            long before = outcome(nine).at(door, kind);
            int bits = 0;
            for (int d = 0; d < heights().size(); d++) {
                falls.add(new Act(minute, d, kind, 1));
                bits |= outcome(nine).at(door, kind) - before == 1 ? 1 << d : 0;
                falls.remove(falls.size() - 1);
            }
            return bits;
        }

        int origin(int door, int kind) {
            if (noDoor(door) || kind < 0 || kind > 4) {
                return -2;
            }
            return outcome(nine).barrows.stream().filter(b -> b.at == door && b.kind == kind)
                .mapToInt(b -> 1 << b.yard).reduce(0, (a, b) -> a | b);
        }

        int best() {
            int best = -1;
            int least = Integer.MAX_VALUE;
            for (int d = 0; d < heights().size(); d++) {
                carts.add(new Act(nine, d, 0, 0));
                if (fine(-1) < least) {
                    least = fine(-1);
                    best = d;
                }
                carts.remove(carts.size() - 1);
            }
            return best;
        }

        // ---- sheets

        int formOf(int s) {
            if (s < 0 || s > 3 || rows[s] == null) {
                return 0;
            }
            return rows[s] instanceof byte[] ? 0 : rows[s] instanceof short[] ? 1 : 2;
        }

        int sizeOf(int s) {
            return s < 0 || s > 3 || rows[s] == null ? 0 : java.lang.reflect.Array.getLength(rows[s]);
        }

        /** Does what may throw: 1, or the refusal for what the Java machine throws. */
        private int tried(Runnable act) {
            try {
                act.run();
                return 1;
            } catch (NullPointerException e) {
                finding = 1;
            } catch (IndexOutOfBoundsException e) {
                finding = 2;
            } catch (ClassCastException e) {
                finding = 3;
            } catch (ArrayStoreException e) {
                finding = 4;
            } catch (NegativeArraySizeException e) {
                finding = 5;
            }
            return -10 - finding;
        }

        private static void putInto(Object row, int form, int i, int v) {
            if (form == 0) {
                ((byte[]) row)[i] = (byte) v;
            } else if (form == 1) {
                ((short[]) row)[i] = (short) v;
            } else {
                ((int[]) row)[i] = v;
            }
        }

        private static int takeFrom(Object row, int form, int i) {
            return form == 0 ? ((byte[]) row)[i] : form == 1 ? ((short[]) row)[i] : ((int[]) row)[i];
        }

        int sheet(int s, int form, int n) {
            if (s < 0 || s > 3 || form < 0 || form > 2 || n > 48) {
                return -2;
            }
            int done = tried(() -> rows[s] = form == 0 ? new byte[n] : form == 1 ? new short[n] : (Object) new int[n]);
            return done == 1 ? n : done;
        }

        int lose(int s) {
            if (s < 0 || s > 3) {
                return -2;
            }
            int size = sizeOf(s);
            int done = tried(() -> rows[s].getClass());
            rows[s] = null;
            return done == 1 ? size : done;
        }

        int put(int s, int form, int i, int v) {
            if (s < 0 || s > 3 || form < 0 || form > 2) {
                return -2;
            }
            return tried(() -> putInto(rows[s], form, i, v));
        }

        int get(int s, int form, int i) {
            if (s < 0 || s > 3 || form < 0 || form > 2) {
                return Integer.MIN_VALUE;
            }
            int[] item = new int[1];
            return tried(() -> item[0] = takeFrom(rows[s], form, i)) == 1 ? item[0] : Integer.MIN_VALUE;
        }

        int copy(int s, int i, int t, int j, int n) {
            if (s < 0 || s > 3 || t < 0 || t > 3) {
                return -2;
            }
            return tried(() -> System.arraycopy(rows[s], i, rows[t], j, n));
        }

        int write(int minute, int s) {
            if (minute < 0 || minute > nine || s < 0 || s > 3) {
                return -2;
            }
            Outcome o = outcome(minute);
            int many = Math.min(sizeOf(s), heights().size());
            int done = tried(() -> {
                rows[s].getClass();
                for (int d = 0; d < many; d++) {
                    putInto(rows[s], formOf(s), d, (int) o.at(d));
                }
            });
            return done == 1 ? many : done;
        }

        int read(int s) {
            if (s < 0 || s > 3) {
                return -2;
            }
            int done = tried(() -> rows[s].getClass());
            if (done != 1) {
                return done;
            }
            for (int i = 0; i < 8; i++) {
                int item = i < sizeOf(s) ? takeFrom(rows[s], formOf(s), i) : -1;
                if (item < 0 || item > 99) {
                    return i;
                }
                holds[i] = item;
            }
            return 8;
        }

        int count(int what) {
            int[] counts = {heights().size(), streets().size(), texts[0].length(), texts[1].length(), falls.size(),
                sweeps.size(), carts.size(), nine, finding};
            return what < 0 || what > 8 ? -2 : counts[what];
        }

        long digest() {
            List<Long> told = new ArrayList<>();
            for (int i = 0; i < 8; i++) {
                told.add((long) count(i));
            }
            told.addAll(List.of((long) fault(0), (long) fault(1)));
            for (int d = 0; d < heights().size(); d++) {
                told.addAll(List.of((long) height(d), (long) fine(d), (long) nets(d, 0), (long) nets(d, 1)));
                for (int k = 0; k < 5; k++) {
                    told.add((long) origin(d, k));
                }
                told.add((long) lies(d, 0, -1));
            }
            for (int s = 0; s < streets().size(); s++) {
                told.addAll(List.of((long) street(s, 0), (long) street(s, 1)));
                told.addAll(List.of((long) bribe(s, 0), (long) bribe(s, 1), (long) bribe(s, 2)));
            }
            told.addAll(List.of((long) fine(-1), (long) judged(), (long) least(1, -1), (long) least(1, 0)));
            told.addAll(List.of((long) least(2, -1), (long) cut(0, 1, 0), (long) cut(0, 1, 1), (long) rests()));
            told.addAll(List.of(odds(4, 0), odds(4, 1), (long) who(0, 0, 0), (long) best()));
            long h = 17;
            for (long each : told) {
                h = 31 * h + each;
            }
            return h;
        }
    }
}
