/**
 * Swept downhill: a steep town in which sweepers may push only downhill, and each heap is whose door it rests at
 * by nine. The words in capitals are those of the document.
 */
public final class SweptDownhill {
    public static final int NONE = -1, BAD = -2, NOT = -3, FULL = -4;

    private static final int NULL = 1, INDEX = 2, CAST = 3, STORE = 4, SIZE = 5;
    private static final int DOORS = 8, STREETS = 12, KINDS = 5, MINUTES = 60;
    private static final int DOOR_BYTES = 8, STREET_BYTES = 40;
    private static final int FALLS = 20, SWEEPS = 24, CARTS = 8;
    private static final int MORE_SWEEPS = 3;
    private static final int SIXTEENTHS = 16;
    private static final int SHEETS = 4, BYTES = 0, SHORTS = 1, FORMS = 3, ITEMS = 48;
    private static final int LEAST_INT = 1 << 31;
    private static final long LEAST_LONG = 1L << 63;

    private final Town town;
    private final Law law;
    private final Told told;
    private final Course course;
    private final Course trial;
    private final Search search;
    private final Sheet[] sheets;
    private int finding;

    public SweptDownhill() {
        town = new Town();
        law = new Law();
        told = new Told();
        course = new Course(town, law, told);
        trial = new Course(town, law, told);
        search = new Search(town, law);
        sheets = new Sheet[SHEETS];
        for (int s = 0; s < SHEETS; s++) {
            sheets[s] = new Sheet();
        }
        finding = 0;
    }

    // ---- doors, streets, law

    public int type(int text, int b) {
        if (!isBelow(text, 2) || !isBelow(b, 256)) {
            return BAD;
        }
        int size = town.textOf(text).append(b);
        town.survey();
        return settled(size);
    }

    public int wipe(int text) {
        if (!isBelow(text, 2)) {
            return BAD;
        }
        int size = town.textOf(text).empty();
        town.survey();
        return settled(size);
    }

    public int fault(int text) {
        if (!isBelow(text, 2)) {
            return BAD;
        }
        return text == 0 ? town.doorFault : town.streetFault;
    }

    public int height(int door) {
        return town.hasDoor(door) ? town.heights[door] : BAD;
    }

    public int street(int street, int what) {
        if (!town.hasStreet(street) || !isBelow(what, 2)) {
            return BAD;
        }
        return what == 0 ? town.uppers[street] : town.lowers[street];
    }

    public int set(int what, int k, int v) {
        return settled(law.change(what, k, v));
    }

    public int read(int s) {
        if (!isBelow(s, SHEETS)) {
            return BAD;
        }
        Sheet sheet = sheets[s];
        if (sheet.isLost()) {
            return found(NULL);
        }
        return settled(law.readHolds(sheet));
    }

    // ---- what comes

    public int fall(int minute, int door, int kind, int n) {
        if (!isBelow(minute, MINUTES) || !isBelow(door, DOORS) || !isBelow(kind, KINDS) || n < 1 || n > 9) {
            return BAD;
        }
        return settled(told.falls.append(minute, door, kind, n));
    }

    public int sweep(int minute, int street) {
        if (!isBelow(minute, MINUTES) || !isBelow(street, STREETS)) {
            return BAD;
        }
        return settled(told.sweeps.append(minute, street, 0, 0));
    }

    public int cart(int minute, int door) {
        if (!isBelow(minute, MINUTES) || !isBelow(door, DOORS)) {
            return BAD;
        }
        return settled(told.carts.append(minute, door, 0, 0));
    }

    public int rain(int minute, int v) {
        if (!isBelow(minute, MINUTES) || !isBelow(v, 2)) {
            return BAD;
        }
        int was = told.rains[minute];
        told.rains[minute] = v;
        return settled(was);
    }

    public int undo(int what) {
        if (!isBelow(what, 3)) {
            return BAD;
        }
        return settled(told.actsOf(what).dropLast());
    }

    // ---- what lies

    public int lies(int door, int minute, int kind) {
        if (!town.hasDoor(door) || !isToNine(minute) || kind < NONE || kind >= KINDS) {
            return BAD;
        }
        Heaps heaps = behind(minute).heaps;
        return kind == NONE ? heaps.allBarrowsAt(door) : heaps.barrowsAt(door, kind);
    }

    public int fine(int door) {
        if (door == NONE) {
            return course.finesTogether();
        }
        return town.hasDoor(door) ? course.fineAt(door) : BAD;
    }

    public int judged() {
        return course.against;
    }

    public int least(int k, int i) {
        if (!isBelow(k, MORE_SWEEPS + 1) || i < NONE || i >= MORE_SWEEPS) {
            return BAD;
        }
        trial.supposeAsTold();
        trial.supposeNoCartsIn(law.nine);
        trial.run(law.nine);
        search.begin(trial);
        search.seek(k);
        return i == NONE ? search.leastFines : search.bestStreet(i);
    }

    // ---- nets, bribes

    public int nets(int door, int what) {
        if (!town.hasDoor(door) || !isBelow(what, 2)) {
            return BAD;
        }
        return what == 0 ? town.doorsFrom(door) : town.doorsTo(door);
    }

    public int cut(int from, int to, int what) {
        if (!town.hasDoor(from) || !town.hasDoor(to) || from == to || !isBelow(what, 2)) {
            return BAD;
        }
        int streets = town.fewestParting(from, to);
        return what == 0 ? Integer.bitCount(streets) : streets;
    }

    public int bribe(int street, int what) {
        if (!town.hasStreet(street) || !isBelow(what, 3)) {
            return BAD;
        }
        int upper = town.uppers[street];
        int fine = course.fineAt(upper);
        int moreBelow = fine * law.prides[town.lowers[street]];
        int lessAbove = fine * law.prides[upper];
        if (what == 2) {
            return Math.max(moreBelow - lessAbove, 0);
        }
        return what == 0 ? moreBelow : lessAbove;
    }

    public int rests() {
        int bits = 0;
        for (int street = 0; street < town.streets; street++) {
            if (bribe(street, 2) == 0) {
                bits |= 1 << street;
            }
        }
        return bits;
    }

    // ---- odds, yards

    public long odds(int sixteenths, int what) {
        if (!isBelow(sixteenths, SIXTEENTHS + 1) || !isBelow(what, 2)) {
            return LEAST_LONG - BAD;
        }
        int above = sixteenthsOfMean(sixteenths, told.sweeps.size);
        int below = SIXTEENTHS;
        while (below > 1 && above % 2 == 0) {
            above /= 2;
            below /= 2;
        }
        return what == 0 ? above : below;
    }

    public int waits(int sixteenths) {
        if (!isBelow(sixteenths, SIXTEENTHS + 1)) {
            return BAD;
        }
        int sweeps = told.sweeps.size;
        if (sweeps == 0) {
            return NOT;
        }
        return sixteenthsOfMean(sixteenths, sweeps - 1) < sixteenthsOfMean(sixteenths, sweeps) ? 1 : 0;
    }

    public int who(int minute, int kind, int door) {
        if (!isToNine(minute) || !isBelow(kind, KINDS) || !town.hasDoor(door)) {
            return BAD;
        }
        int oneMore = course.heaps.barrowsAt(door, kind) + 1;
        int bits = 0;
        for (int yard = 0; yard < town.doors; yard++) {
            trial.supposeAsTold();
            trial.supposeBarrow(minute, yard, kind);
            trial.run(law.nine);
            if (trial.heaps.barrowsAt(door, kind) == oneMore) {
                bits |= 1 << yard;
            }
        }
        return bits;
    }

    public int origin(int door, int kind) {
        if (!town.hasDoor(door) || !isBelow(kind, KINDS)) {
            return BAD;
        }
        return course.heaps.yardsAt(door, kind);
    }

    public int best() {
        int best = NONE;
        int most = NONE;
        // A CART in NINE comes behind all else, so it takes just the FINE of its DOOR.
        for (int door = 0; door < town.doors; door++) {
            int fine = course.fineAt(door);
            if (fine > most) {
                most = fine;
                best = door;
            }
        }
        return best;
    }

    // ---- sheets

    public int sheet(int s, int form, int n) {
        if (!isBelow(s, SHEETS) || !isBelow(form, FORMS) || n > ITEMS) {
            return BAD;
        }
        if (n < 0) {
            return found(SIZE);
        }
        sheets[s].renew(form, n);
        return n;
    }

    public int lose(int s) {
        if (!isBelow(s, SHEETS)) {
            return BAD;
        }
        Sheet sheet = sheets[s];
        if (sheet.isLost()) {
            return found(NULL);
        }
        int size = sheet.size;
        sheet.size = NONE;
        return size;
    }

    public int put(int s, int form, int i, int v) {
        if (!isBelow(s, SHEETS) || !isBelow(form, FORMS)) {
            return BAD;
        }
        int why = sheets[s].whyNoItem(form, i);
        if (why != 0) {
            return found(why);
        }
        sheets[s].store(i, v);
        return 1;
    }

    public int get(int s, int form, int i) {
        if (!isBelow(s, SHEETS) || !isBelow(form, FORMS)) {
            return LEAST_INT;
        }
        int why = sheets[s].whyNoItem(form, i);
        if (why != 0) {
            finding = why;
            return LEAST_INT;
        }
        return sheets[s].itemAt(i);
    }

    public int copy(int s, int i, int t, int j, int n) {
        if (!isBelow(s, SHEETS) || !isBelow(t, SHEETS)) {
            return BAD;
        }
        Sheet source = sheets[s];
        Sheet target = sheets[t];
        if (source.isLost() || target.isLost()) {
            return found(NULL);
        }
        if (source.form != target.form) {
            return found(STORE);
        }
        if (!source.hasRun(i, n) || !target.hasRun(j, n)) {
            return found(INDEX);
        }
        System.arraycopy(source.items, i, target.items, j, n);
        return 1;
    }

    public int write(int minute, int s) {
        if (!isToNine(minute) || !isBelow(s, SHEETS)) {
            return BAD;
        }
        Sheet sheet = sheets[s];
        if (sheet.isLost()) {
            return found(NULL);
        }
        Heaps heaps = behind(minute).heaps;
        int many = Math.min(sheet.size, town.doors);
        for (int door = 0; door < many; door++) {
            sheet.store(door, heaps.allBarrowsAt(door));
        }
        return many;
    }

    public int count(int what) {
        switch (what) {
            case 0: return town.doors;
            case 1: return town.streets;
            case 2: return town.doorText.size;
            case 3: return town.streetText.size;
            case 4: return told.falls.size;
            case 5: return told.sweeps.size;
            case 6: return told.carts.size;
            case 7: return law.nine;
            case 8: return finding;
            default: return BAD;
        }
    }

    public long digest() {
        long h = 17;
        for (int what = 0; what <= 7; what++) {
            h = 31 * h + count(what);
        }
        h = 31 * h + fault(0);
        h = 31 * h + fault(1);
        for (int door = 0; door < town.doors; door++) {
            h = 31 * h + height(door);
            h = 31 * h + fine(door);
            h = 31 * h + nets(door, 0);
            h = 31 * h + nets(door, 1);
            for (int kind = 0; kind < KINDS; kind++) {
                h = 31 * h + origin(door, kind);
            }
            h = 31 * h + lies(door, 0, NONE);
        }
        for (int street = 0; street < town.streets; street++) {
            h = 31 * h + street(street, 0);
            h = 31 * h + street(street, 1);
            for (int what = 0; what <= 2; what++) {
                h = 31 * h + bribe(street, what);
            }
        }
        h = 31 * h + fine(NONE);
        h = 31 * h + judged();
        h = 31 * h + least(1, NONE);
        h = 31 * h + least(1, 0);
        h = 31 * h + least(2, NONE);
        h = 31 * h + cut(0, 1, 0);
        h = 31 * h + cut(0, 1, 1);
        h = 31 * h + rests();
        h = 31 * h + odds(4, 0);
        h = 31 * h + odds(4, 1);
        h = 31 * h + who(0, 0, 0);
        return 31 * h + best();
    }

    private static boolean isBelow(int number, int end) {
        return number >= 0 && number < end;
    }

    private boolean isToNine(int minute) {
        return minute >= 0 && minute <= law.nine;
    }

    private int found(int number) {
        finding = number;
        return -10 - number;
    }

    /** Goes through the minutes anew, as every change does, so that all questions find what lies behind NINE. */
    private int settled(int answer) {
        course.supposeAsTold();
        course.run(law.nine);
        return answer;
    }

    /** The course as told, run so far that it holds what lies behind a minute. */
    private Course behind(int minute) {
        if (minute >= law.nine) {
            return course;
        }
        trial.supposeAsTold();
        trial.run(minute);
        return trial;
    }

    /** Sixteen times the mean of FINES together, when only the first so many SWEEPS are told. */
    private int sixteenthsOfMean(int sixteenths, int sweeps) {
        int sum = 0;
        for (int rain = 0; rain <= 1; rain++) {
            trial.supposeAsTold();
            trial.supposeRainInNine(rain);
            trial.supposeSweeps(sweeps);
            trial.run(law.nine);
            sum += trial.finesTogether() * (rain == 1 ? sixteenths : SIXTEENTHS - sixteenths);
        }
        return sum;
    }

    /** The bytes of a text. */
    private static final class Text {
        final int[] bytes = new int[STREET_BYTES];
        final int most;
        int size = 0;

        Text(int most) {
            this.most = Math.min(most, STREET_BYTES);
        }

        int append(int b) {
            if (size < 0 || size >= most) {
                return FULL;
            }
            bytes[size] = b;
            size++;
            return size;
        }

        int empty() {
            int had = size;
            size = 0;
            return had;
        }

        int byteAt(int place) {
            return isBelow(place, size) ? bytes[place] : NONE;
        }
    }

    /** DOORS and STREETS as the texts tell them, and the ways that lead from DOOR to DOOR. */
    private static final class Town {
        final Text doorText = new Text(DOOR_BYTES);
        final Text streetText = new Text(STREET_BYTES);
        final int[] heights = new int[DOORS];
        final int[] uppers = new int[STREETS];
        final int[] lowers = new int[STREETS];
        final int[] doorsDownhill = new int[DOORS];
        final int[] streetsDownhill = new int[STREETS];
        final int[] firstStreets = new int[DOORS];
        int doors = 0;
        int streets = 0;
        int doorFault = NONE;
        int streetFault = NONE;

        Text textOf(int text) {
            return text == 0 ? doorText : streetText;
        }

        boolean hasDoor(int door) {
            return isBelow(door, doors);
        }

        boolean hasStreet(int street) {
            return isBelow(street, streets);
        }

        /** Reads both texts anew, as either changes what the other one means. */
        void survey() {
            doorFault = faultOfDoors();
            doors = doorFault == NONE ? Math.min(doorText.size, DOORS) : 0;
            for (int door = 0; door < doors; door++) {
                heights[door] = figureAt(doorText, door);
            }
            streetFault = faultOfStreets();
            streets = streetFault == NONE ? Math.min((streetText.size + 1) / 3, STREETS) : 0;
            for (int street = 0; street < streets; street++) {
                uppers[street] = figureAt(streetText, 3 * street);
                lowers[street] = figureAt(streetText, 3 * street + 1);
            }
            orderDoors();
            orderStreets();
        }

        private static int figureAt(Text text, int place) {
            int figure = text.byteAt(place) - '0';
            return isBelow(figure, 10) ? figure : NONE;
        }

        private int faultOfDoors() {
            for (int place = 0; place < doorText.size; place++) {
                if (figureAt(doorText, place) == NONE) {
                    return place;
                }
            }
            return NONE;
        }

        private int faultOfStreets() {
            int size = streetText.size;
            for (int place = 0; place < size; place++) {
                if (!streetsGoOn(place)) {
                    return place;
                }
            }
            return size == 0 || size % 3 == 2 ? NONE : size;
        }

        /** Whether the byte at a place may stand behind those ahead of it, which are well. */
        private boolean streetsGoOn(int place) {
            if (place % 3 == 2) {
                return streetText.byteAt(place) == ';';
            }
            int door = figureAt(streetText, place);
            if (!hasDoor(door)) {
                return false;
            }
            if (place % 3 == 0) {
                return place / 3 < STREETS;
            }
            int upper = figureAt(streetText, place - 1);
            return hasDoor(upper) && heights[door] < heights[upper];
        }

        private void orderDoors() {
            int ordered = 0;
            for (int height = 9; height >= 0; height--) {
                for (int door = 0; door < doors; door++) {
                    if (heights[door] == height && ordered < DOORS) {
                        doorsDownhill[ordered] = door;
                        ordered++;
                    }
                }
            }
        }

        private void orderStreets() {
            int ordered = 0;
            for (int i = 0; i < doors; i++) {
                int door = doorsDownhill[i];
                firstStreets[door] = NONE;
                for (int street = 0; street < streets; street++) {
                    if (uppers[street] == door && ordered < STREETS) {
                        streetsDownhill[ordered] = street;
                        ordered++;
                        if (firstStreets[door] == NONE) {
                            firstStreets[door] = street;
                        }
                    }
                }
            }
        }

        /** A DOOR and all DOORS to which one can come from it without some STREETS, as bits. */
        private int reached(int from, int without) {
            int bits = 1 << from;
            // Once is enough: the STREETS are taken from the highest on, so all ways to one are known ahead of it.
            for (int i = 0; i < streets; i++) {
                int street = streetsDownhill[i];
                boolean open = (without >> street & 1) == 0;
                if (open && (bits >> uppers[street] & 1) == 1) {
                    bits |= 1 << lowers[street];
                }
            }
            return bits;
        }

        int doorsTo(int from) {
            return reached(from, 0) & ~(1 << from);
        }

        int doorsFrom(int to) {
            int bits = 0;
            for (int door = 0; door < doors; door++) {
                if (door != to && (reached(door, 0) >> to & 1) == 1) {
                    bits |= 1 << door;
                }
            }
            return bits;
        }

        /** Of the sets of STREETS that part two DOORS the smallest one with the least bits. */
        int fewestParting(int from, int to) {
            int all = 1 << streets;
            int best = all - 1;
            int fewest = streets + 1;
            for (int without = 0; without < all; without++) {
                int many = Integer.bitCount(without);
                if (many < fewest && (reached(from, without) >> to & 1) == 0) {
                    fewest = many;
                    best = without;
                }
            }
            return best;
        }
    }

    /** What is set: RATES, HOLDS, PRIDES and NINE. */
    private static final class Law {
        final int[] rates = new int[KINDS];
        final int[] holds = new int[DOORS];
        final int[] prides = new int[DOORS];
        int nine = MINUTES - 1;

        Law() {
            for (int kind = 0; kind < KINDS; kind++) {
                rates[kind] = kind + 1;
            }
            for (int door = 0; door < DOORS; door++) {
                holds[door] = 99;
                prides[door] = 1;
            }
        }

        int change(int what, int k, int v) {
            switch (what) {
                case 0: return v >= 0 && v <= 9 ? exchange(rates, k, v) : BAD;
                case 1: return isHold(v) ? exchange(holds, k, v) : BAD;
                case 2: return v >= 1 && v <= 9 ? exchange(prides, k, v) : BAD;
                case 3: return k == 0 ? changeNine(v) : BAD;
                default: return BAD;
            }
        }

        private static int exchange(int[] row, int k, int v) {
            if (!isBelow(k, row.length)) {
                return BAD;
            }
            int was = row[k];
            row[k] = v;
            return was;
        }

        private int changeNine(int v) {
            if (!isBelow(v, MINUTES)) {
                return BAD;
            }
            int was = nine;
            nine = v;
            return was;
        }

        private static boolean isHold(int v) {
            return v >= 0 && v <= 99;
        }

        int readHolds(Sheet sheet) {
            int many = 0;
            while (many < DOORS && many < sheet.size && isHold(sheet.itemAt(many))) {
                holds[many] = sheet.itemAt(many);
                many++;
            }
            return many;
        }
    }

    /** FALLS, SWEEPS or CARTS in the order told; a place is the number of a DOOR or a STREET. */
    private static final class Acts {
        final int[] minutes = new int[SWEEPS];
        final int[] places = new int[SWEEPS];
        final int[] kinds = new int[SWEEPS];
        final int[] amounts = new int[SWEEPS];
        final int most;
        int size = 0;

        Acts(int most) {
            this.most = Math.min(most, SWEEPS);
        }

        int append(int minute, int place, int kind, int amount) {
            if (size < 0 || size >= most) {
                return FULL;
            }
            minutes[size] = minute;
            places[size] = place;
            kinds[size] = kind;
            amounts[size] = amount;
            size++;
            return size;
        }

        int dropLast() {
            if (size == 0) {
                return NOT;
            }
            size--;
            return size;
        }
    }

    /** What comes, as told. */
    private static final class Told {
        final Acts falls = new Acts(FALLS);
        final Acts sweeps = new Acts(SWEEPS);
        final Acts carts = new Acts(CARTS);
        final int[] rains = new int[MINUTES];

        Acts actsOf(int what) {
            if (what == 0) {
                return falls;
            }
            return what == 1 ? sweeps : carts;
        }
    }

    /** The barrows of each KIND at each DOOR, and the yards (DOORS, as bits) at which they fell. */
    private static final class Heaps {
        final int[] barrows = new int[DOORS * KINDS];
        final int[] yards = new int[DOORS * KINDS];

        void clear() {
            for (int heap = 0; heap < barrows.length && heap < yards.length; heap++) {
                barrows[heap] = 0;
                yards[heap] = 0;
            }
        }

        void clearDoor(int door) {
            for (int kind = 0; kind < KINDS && isBelow(door, DOORS); kind++) {
                barrows[door * KINDS + kind] = 0;
                yards[door * KINDS + kind] = 0;
            }
        }

        void drop(int door, int kind, int n) {
            if (!isBelow(door, DOORS) || !isBelow(kind, KINDS)) {
                return;
            }
            barrows[door * KINDS + kind] += n;
            yards[door * KINDS + kind] |= 1 << door;
        }

        void slide(int upper, int lower) {
            if (!isBelow(upper, DOORS) || !isBelow(lower, DOORS) || upper == lower) {
                return;
            }
            for (int kind = 0; kind < KINDS; kind++) {
                int from = upper * KINDS + kind;
                int to = lower * KINDS + kind;
                barrows[to] += barrows[from];
                yards[to] |= yards[from];
                barrows[from] = 0;
                yards[from] = 0;
            }
        }

        int barrowsAt(int door, int kind) {
            return isBelow(door, DOORS) && isBelow(kind, KINDS) ? barrows[door * KINDS + kind] : 0;
        }

        int allBarrowsAt(int door) {
            int sum = 0;
            for (int kind = 0; kind < KINDS && isBelow(door, DOORS); kind++) {
                sum += barrows[door * KINDS + kind];
            }
            return sum;
        }

        int yardsAt(int door, int kind) {
            return isBelow(door, DOORS) && isBelow(kind, KINDS) ? yards[door * KINDS + kind] : 0;
        }
    }

    /** The minutes gone through from the first on: as told, or with something else supposed. */
    private static final class Course {
        final Town town;
        final Law law;
        final Told told;
        final Heaps heaps = new Heaps();
        int against = NONE;
        int rainInNine = NONE;
        int sweeps = 0;
        int uncarted = NONE;
        int moreMinute = NONE;
        int moreDoor = NONE;
        int moreKind = NONE;

        Course(Town town, Law law, Told told) {
            this.town = town;
            this.law = law;
            this.told = told;
        }

        void supposeAsTold() {
            rainInNine = NONE;
            sweeps = told.sweeps.size;
            uncarted = NONE;
            moreMinute = NONE;
        }

        void supposeRainInNine(int v) {
            rainInNine = v;
        }

        void supposeSweeps(int many) {
            sweeps = Math.min(many, told.sweeps.size);
        }

        void supposeNoCartsIn(int minute) {
            uncarted = minute;
        }

        void supposeBarrow(int minute, int door, int kind) {
            moreMinute = minute;
            moreDoor = door;
            moreKind = kind;
        }

        void run(int last) {
            heaps.clear();
            against = NONE;
            for (int minute = 0; minute <= last && minute < MINUTES; minute++) {
                takeFalls(minute);
                if (rainsIn(minute)) {
                    washDown();
                }
                takeSweeps(minute);
                if (minute != uncarted) {
                    takeCarts(minute);
                }
            }
        }

        private void takeFalls(int minute) {
            Acts falls = told.falls;
            for (int i = 0; i < falls.size; i++) {
                if (falls.minutes[i] == minute && town.hasDoor(falls.places[i])) {
                    heaps.drop(falls.places[i], falls.kinds[i], falls.amounts[i]);
                }
            }
            if (moreMinute == minute && town.hasDoor(moreDoor)) {
                heaps.drop(moreDoor, moreKind, 1);
            }
        }

        private boolean rainsIn(int minute) {
            if (minute == law.nine && rainInNine != NONE) {
                return rainInNine == 1;
            }
            return told.rains[minute] == 1;
        }

        private void washDown() {
            for (int i = 0; i < town.doors; i++) {
                int door = town.doorsDownhill[i];
                int street = town.firstStreets[door];
                if (town.hasStreet(street)) {
                    heaps.slide(door, town.lowers[street]);
                }
            }
        }

        private void takeSweeps(int minute) {
            for (int i = 0; i < sweeps; i++) {
                if (told.sweeps.minutes[i] == minute && !sweepsDown(told.sweeps.places[i]) && against == NONE) {
                    against = i;
                }
            }
        }

        /** Sweeps down a STREET if the LAW lets it: whether it does. */
        private boolean sweepsDown(int street) {
            if (!town.hasStreet(street)) {
                return false;
            }
            int upper = town.uppers[street];
            int lower = town.lowers[street];
            if (heaps.allBarrowsAt(upper) + heaps.allBarrowsAt(lower) > law.holds[lower]) {
                return false;
            }
            heaps.slide(upper, lower);
            return true;
        }

        private void takeCarts(int minute) {
            Acts carts = told.carts;
            for (int i = 0; i < carts.size; i++) {
                if (carts.minutes[i] == minute && town.hasDoor(carts.places[i])) {
                    heaps.clearDoor(carts.places[i]);
                }
            }
        }

        boolean hasCart(int door, int minute) {
            Acts carts = told.carts;
            for (int i = 0; i < carts.size; i++) {
                if (carts.minutes[i] == minute && carts.places[i] == door) {
                    return true;
                }
            }
            return false;
        }

        int fineAt(int door) {
            int sum = 0;
            for (int kind = 0; kind < KINDS; kind++) {
                sum += law.rates[kind] * heaps.barrowsAt(door, kind);
            }
            return sum;
        }

        int finesTogether() {
            int sum = 0;
            for (int door = 0; door < town.doors; door++) {
                sum += fineAt(door);
            }
            return sum;
        }
    }

    /** The search for LEAST among all rows of SWEEPS ahead of the CARTS in NINE. */
    private static final class Search {
        final Town town;
        final Law law;
        final int[] barrows = new int[DOORS];
        final int[] worths = new int[DOORS];
        final boolean[] carted = new boolean[DOORS];
        final int[] row = new int[MORE_SWEEPS];
        final int[] bestRow = new int[MORE_SWEEPS];
        int bestSize = 0;
        int fines = 0;
        int leastFines = 0;

        Search(Town town, Law law) {
            this.town = town;
            this.law = law;
        }

        void begin(Course aheadOfCarts) {
            fines = 0;
            for (int door = 0; door < town.doors; door++) {
                barrows[door] = aheadOfCarts.heaps.allBarrowsAt(door);
                worths[door] = aheadOfCarts.fineAt(door);
                carted[door] = aheadOfCarts.hasCart(door, law.nine);
                fines += carted[door] ? 0 : worths[door];
            }
            bestSize = 0;
            leastFines = fines;
        }

        void seek(int most) {
            extend(this, 0, Math.min(most, MORE_SWEEPS));
        }

        int bestStreet(int i) {
            return isBelow(i, bestSize) ? bestRow[i] : NONE;
        }

        /** Tries all rows that go on behind the first so many STREETS of the row; at most three levels deep. */
        private static void extend(Search search, int depth, int most) {
            if (depth < 0 || depth >= most) {
                return;
            }
            for (int street = 0; street < search.town.streets; street++) {
                int upper = search.town.uppers[street];
                int lower = search.town.lowers[street];
                int moved = search.barrows[upper];
                int worth = search.worths[upper];
                // A SWEEP of nothing is left out: it changes nothing, and a row without it has fewer.
                if (moved > 0 && moved + search.barrows[lower] <= search.law.holds[lower]) {
                    search.row[depth] = street;
                    search.move(upper, lower, moved, worth);
                    search.compare(depth + 1);
                    extend(search, depth + 1, most);
                    search.move(lower, upper, moved, worth);
                }
            }
        }

        private void move(int from, int to, int moved, int worth) {
            barrows[from] -= moved;
            worths[from] -= worth;
            fines -= carted[from] ? 0 : worth;
            barrows[to] += moved;
            worths[to] += worth;
            fines += carted[to] ? 0 : worth;
        }

        /** Keeps the row if it is better; rows come in order, so of like ones the first is the least. */
        private void compare(int size) {
            if (fines > leastFines || fines == leastFines && size >= bestSize) {
                return;
            }
            leastFines = fines;
            bestSize = size;
            for (int i = 0; i < size && i < MORE_SWEEPS; i++) {
                bestRow[i] = row[i];
            }
        }
    }

    /** A row of items of a FORM; LOST if its size is NONE. */
    private static final class Sheet {
        final int[] items = new int[ITEMS];
        int form = BYTES;
        int size = NONE;

        boolean isLost() {
            return size == NONE;
        }

        void renew(int newForm, int newSize) {
            form = newForm;
            size = Math.min(newSize, ITEMS);
            for (int i = 0; i < ITEMS; i++) {
                items[i] = 0;
            }
        }

        /** The FINDING that keeps an item, treated as of a FORM, from being used; 0 if there is none. */
        int whyNoItem(int asForm, int i) {
            if (isLost()) {
                return NULL;
            }
            if (asForm != form) {
                return CAST;
            }
            return isBelow(i, size) ? 0 : INDEX;
        }

        /** Whether there are n items from i on, with a place for i even if n is 0. */
        boolean hasRun(int i, int n) {
            return i >= 0 && n >= 0 && n <= size && i <= size - n;
        }

        int itemAt(int i) {
            return isBelow(i, size) ? items[i] : 0;
        }

        void store(int i, int v) {
            if (isBelow(i, size)) {
                items[i] = narrowed(v);
            }
        }

        private int narrowed(int v) {
            if (form == BYTES) {
                return (byte) v;
            }
            return form == SHORTS ? (short) v : v;
        }
    }
}
