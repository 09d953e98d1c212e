import java.util.ArrayList;
import java.util.List;
import java.util.function.IntToLongFunction;
import java.util.function.LongSupplier;

/** Counts what is checked and keeps what was answered otherwise than is due. */
final class Probe {
    final List<String> wrong = new ArrayList<>();
    int checks = 0;

    void is(long want, long got) {
        checks++;
        if (got != want) {
            wrong.add("check " + checks + ": " + got + ", due is " + want);
        }
    }

    /** The answers of a call to 0, 1 and so on, so many of them. */
    void row(String want, int many, IntToLongFunction call) {
        StringBuilder got = new StringBuilder();
        for (int i = 0; i < many; i++) {
            got.append(i == 0 ? "" : " ").append(call.applyAsLong(i));
        }
        checks++;
        if (!got.toString().equals(want)) {
            wrong.add("check " + checks + ": " + got + ", due is " + want);
        }
    }

    /** What lies at the DOORS behind a minute, and that there is no DOOR more. */
    void heaps(String want, SweptDownhill x, int minute) {
        row(want.isEmpty() ? "-2" : want + " -2", x.count(0) + 1, door -> x.lies(door, minute, SweptDownhill.NONE));
    }

    /** A refused call, which leaves the digest as it was. */
    void refused(SweptDownhill x, long want, LongSupplier call) {
        long before = x.digest();
        is(want, call.getAsLong());
        is(before, x.digest());
    }

    /** A digest h with more things told. */
    static long fold(long h, long... told) {
        long folded = h;
        for (long each : told) {
            folded = 31 * folded + each;
        }
        return folded;
    }
}
