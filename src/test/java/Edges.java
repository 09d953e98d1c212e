import java.util.ArrayList;
import java.util.List;
import java.util.function.Consumer;

/** The boundaries that a part of the document names. */
abstract class Edges {
    static final int NONE = -1, BAD = -2, NOT = -3, FULL = -4;
    static final int NULL = -11, INDEX = -12, CAST = -13, STORE = -14, SIZE = -15;
    static final int LEAST_INT = Integer.MIN_VALUE, MOST_INT = Integer.MAX_VALUE;
    static final long LEAST_LONG = Long.MIN_VALUE;
    static final int ASH = 0, GLASS = 1, BONES = 2, LIVING = 3, WASHING = 4;
    static final int BYTES = 0, SHORTS = 1, INTS = 2;
    /** As many STREETS as there may be, from DOOR 0 to DOOR 1. */
    static final String TWELVE = "01;01;01;01;01;01;01;01;01;01;01;01";

    final List<Edge> all = new ArrayList<>();

    void edge(String place, String sentence, Consumer<Probe> test) {
        all.add(new Edge(place, sentence, test));
    }

    static SweptDownhill town(String doors, String streets) {
        SweptDownhill x = new SweptDownhill();
        type(x, 0, doors);
        type(x, 1, streets);
        return x;
    }

    /** Four DOORS with a STREET from each to the next one. */
    static SweptDownhill ladder() {
        return town("9630", "01;12;23");
    }

    static void type(SweptDownhill x, int text, String bytes) {
        for (int i = 0; i < bytes.length(); i++) {
            x.type(text, bytes.charAt(i));
        }
    }

    /** Lets so many barrows of ash fall at a DOOR in a minute, nine at a time. */
    static void heap(SweptDownhill x, int minute, int door, int barrows) {
        for (int left = barrows; left > 0; left -= 9) {
            x.fall(minute, door, ASH, Math.min(left, 9));
        }
    }

    /** A SHEET of a FORM with just these items. */
    static void sheetOf(SweptDownhill x, int s, int form, int... items) {
        x.sheet(s, form, items.length);
        for (int i = 0; i < items.length; i++) {
            x.put(s, form, i, items[i]);
        }
    }
}
