import java.util.ArrayList;
import java.util.List;
import java.util.function.ToLongFunction;

/** Refusals: what they answer, which comes first, and that they change nothing. */
final class EdgesOfRefusals extends Edges {
    /** A call that is refused, and the answer that is due. */
    private record Refused(long want, ToLongFunction<SweptDownhill> call) { }

    EdgesOfRefusals() {
        findings();
        firstThatFits();
        changeNothing();
        numbers();
    }

    private void findings() {
        edge("Terms", "FINDING 1, NULL: the SHEET is LOST", p -> {
            SweptDownhill x = new SweptDownhill();
            p.is(-11, x.put(0, BYTES, 0, 7));
            p.is(1, x.count(8));
        });
        edge("Terms", "FINDING 2, INDEX: there is no such item, ahead of the first or behind the last", p -> {
            SweptDownhill x = new SweptDownhill();
            x.sheet(0, BYTES, 3);
            p.is(1, x.put(0, BYTES, 0, 7));
            p.is(1, x.put(0, BYTES, 2, 7));
            p.is(-12, x.put(0, BYTES, 3, 7));
            p.is(-12, x.put(0, BYTES, -1, 7));
            p.is(-12, x.put(0, BYTES, LEAST_INT, 7));
            p.is(-12, x.put(0, BYTES, MOST_INT, 7));
            p.is(2, x.count(8));
        });
        edge("Terms", "FINDING 3, CAST: it has another FORM", p -> {
            SweptDownhill x = new SweptDownhill();
            for (int form = 0; form < 3; form++) {
                x.sheet(form, form, 1);
                p.is(-13, x.put(form, (form + 1) % 3, 0, 7));
                p.is(-13, x.put(form, (form + 2) % 3, 0, 7));
                p.is(1, x.put(form, form, 0, 7));
            }
            p.is(3, x.count(8));
        });
        edge("Terms", "FINDING 4, STORE: unlike FORMS", p -> {
            SweptDownhill x = new SweptDownhill();
            x.sheet(0, BYTES, 1);
            x.sheet(1, SHORTS, 1);
            p.is(-14, x.copy(0, 0, 1, 0, 1));
            p.is(4, x.count(8));
        });
        edge("Terms", "FINDING 5, SIZE: below 0", p -> {
            SweptDownhill x = new SweptDownhill();
            p.is(0, x.sheet(0, BYTES, 0));
            p.is(-15, x.sheet(0, BYTES, -1));
            p.is(-15, x.sheet(0, BYTES, LEAST_INT));
            p.is(5, x.count(8));
        });
    }

    private void firstThatFits() {
        edge("27 sheet", "BAD comes ahead of SIZE", p -> {
            SweptDownhill x = new SweptDownhill();
            p.is(BAD, x.sheet(4, BYTES, -1));
            p.is(BAD, x.sheet(0, 3, -1));
            p.is(0, x.count(8));
        });
        edge("29 put", "BAD comes ahead of NULL", p -> {
            SweptDownhill x = new SweptDownhill();
            p.is(BAD, x.put(0, 3, 0, 7));
            p.is(BAD, x.put(0, -1, 0, 7));
            p.is(LEAST_INT, x.get(0, 3, 0));
            p.is(0, x.count(8));
        });
        edge("29 put", "NULL comes ahead of CAST and INDEX", p -> {
            SweptDownhill x = new SweptDownhill();
            x.sheet(0, INTS, 2);
            x.lose(0);
            p.is(NULL, x.put(0, BYTES, 5, 7));
            x.sheet(1, BYTES, -1);
            p.is(LEAST_INT, x.get(0, BYTES, 5));
            p.is(1, x.count(8));
        });
        edge("29 put", "CAST comes ahead of INDEX", p -> {
            SweptDownhill x = new SweptDownhill();
            x.sheet(0, INTS, 2);
            p.is(CAST, x.put(0, BYTES, 2, 7));
            x.sheet(1, BYTES, -1);
            p.is(LEAST_INT, x.get(0, BYTES, -1));
            p.is(3, x.count(8));
        });
        edge("31 copy", "BAD comes ahead of NULL", p -> {
            SweptDownhill x = new SweptDownhill();
            p.is(BAD, x.copy(4, 0, 0, 0, 0));
            p.is(BAD, x.copy(0, 0, 4, 0, 0));
            p.is(BAD, x.copy(-1, 0, 0, 0, 0));
            p.is(BAD, x.copy(0, 0, -1, 0, 0));
            p.is(0, x.count(8));
        });
        edge("31 copy", "NULL comes ahead of STORE and INDEX", p -> {
            SweptDownhill x = new SweptDownhill();
            x.sheet(0, BYTES, 1);
            x.sheet(1, INTS, 1);
            x.lose(1);
            p.is(NULL, x.copy(0, 9, 1, 9, 9));
            p.is(NULL, x.copy(1, -1, 0, -1, -1));
        });
        edge("31 copy", "STORE comes ahead of INDEX", p -> {
            SweptDownhill x = new SweptDownhill();
            x.sheet(0, BYTES, 1);
            x.sheet(1, INTS, 1);
            p.is(STORE, x.copy(0, 9, 1, 0, 1));
            p.is(STORE, x.copy(0, 0, 1, 0, -1));
        });
        edge("32 write", "BAD comes ahead of NULL", p -> {
            SweptDownhill x = town("9", "");
            p.is(BAD, x.write(60, 0));
            p.is(BAD, x.write(-1, 0));
            p.is(0, x.count(8));
        });
    }

    private void changeNothing() {
        edge("Refusals", "BAD changes nothing", p -> {
            List<Refused> calls = new ArrayList<>();
            badWords(calls);
            badActs(calls);
            badQuestions(calls);
            badSheets(calls);
            changesNothing(p, calls, 0);
        });
        edge("Refusals", "NOT and FULL change nothing", p -> {
            changesNothing(p, List.of(new Refused(FULL, x -> x.fall(0, 0, ASH, 1)),
                new Refused(FULL, x -> x.sweep(0, 0)), new Refused(NOT, x -> x.undo(2))), 0);
            SweptDownhill x = town("95", "");
            x.fall(0, 0, ASH, 3);
            p.refused(x, NOT, () -> x.waits(8));
            p.is(0, x.count(8));
        });
        edge("Refusals", "a FINDING changes nothing but count() 8", p -> {
            changesNothing(p, List.of(new Refused(NULL, x -> x.read(3)), new Refused(NULL, x -> x.lose(3)),
                new Refused(NULL, x -> x.put(3, 0, 0, 5)), new Refused(LEAST_INT, x -> x.get(3, 0, 0)),
                new Refused(NULL, x -> x.copy(3, 0, 0, 0, 1)), new Refused(NULL, x -> x.copy(0, 0, 3, 0, 1)),
                new Refused(NULL, x -> x.write(5, 3))), 1);
            changesNothing(p, List.of(new Refused(INDEX, x -> x.put(0, 0, 4, 5)),
                new Refused(INDEX, x -> x.put(1, 1, -1, 5)), new Refused(LEAST_INT, x -> x.get(2, 2, 4)),
                new Refused(INDEX, x -> x.copy(0, 1, 0, 0, 4)), new Refused(INDEX, x -> x.copy(0, 0, 0, 1, 4)),
                new Refused(INDEX, x -> x.copy(0, 0, 0, 1, -1))), 2);
            changesNothing(p, List.of(new Refused(CAST, x -> x.put(0, 1, 0, 5)),
                new Refused(LEAST_INT, x -> x.get(0, 2, 0))), 3);
            changesNothing(p, List.of(new Refused(STORE, x -> x.copy(0, 0, 1, 0, 2))), 4);
            changesNothing(p, List.of(new Refused(SIZE, x -> x.sheet(0, 0, -1)),
                new Refused(SIZE, x -> x.sheet(3, 2, LEAST_INT))), 5);
        });
    }

    private static void badWords(List<Refused> calls) {
        for (int text = -1; text <= 2; text += 3) {
            int t = text;
            bad(calls, x -> x.type(t, '5'), x -> x.wipe(t), x -> x.fault(t));
        }
        bad(calls, x -> x.type(0, -1), x -> x.type(1, 256), x -> x.height(-1), x -> x.height(4),
            x -> x.street(-1, 0), x -> x.street(3, 0), x -> x.street(0, -1), x -> x.street(0, 2),
            x -> x.set(-1, 0, 5), x -> x.set(4, 0, 5), x -> x.set(0, -1, 5), x -> x.set(0, 5, 5),
            x -> x.set(0, 0, -1), x -> x.set(0, 0, 10), x -> x.set(1, -1, 5), x -> x.set(1, 8, 5),
            x -> x.set(1, 0, -1), x -> x.set(1, 0, 100), x -> x.set(2, -1, 5), x -> x.set(2, 8, 5),
            x -> x.set(2, 0, 0), x -> x.set(2, 0, 10), x -> x.set(3, 1, 5), x -> x.set(3, -1, 5),
            x -> x.set(3, 0, -1), x -> x.set(3, 0, 60), x -> x.read(-1), x -> x.read(4));
    }

    private static void badActs(List<Refused> calls) {
        for (int minute = -1; minute <= 60; minute += 61) {
            int m = minute;
            bad(calls, x -> x.fall(m, 0, 0, 1), x -> x.sweep(m, 0), x -> x.cart(m, 0), x -> x.rain(m, 1),
                x -> x.lies(0, m, 0), x -> x.who(m, 0, 0), x -> x.write(m, 0));
        }
        bad(calls, x -> x.fall(0, -1, 0, 1), x -> x.fall(0, 8, 0, 1), x -> x.fall(0, 0, -1, 1),
            x -> x.fall(0, 0, 5, 1), x -> x.fall(0, 0, 0, 0), x -> x.fall(0, 0, 0, 10), x -> x.sweep(0, -1),
            x -> x.sweep(0, 12), x -> x.cart(0, -1), x -> x.cart(0, 8), x -> x.rain(0, -1), x -> x.rain(0, 2),
            x -> x.undo(-1), x -> x.undo(3));
    }

    private static void badQuestions(List<Refused> calls) {
        for (int door = -1; door <= 4; door += 5) {
            int d = door;
            bad(calls, x -> x.lies(d, 0, 0), x -> x.nets(d, 0), x -> x.cut(d, 0, 0), x -> x.cut(0, d, 0),
                x -> x.who(0, 0, d), x -> x.origin(d, 0));
        }
        bad(calls, x -> x.lies(0, 41, 0), x -> x.lies(0, 0, -2), x -> x.lies(0, 0, 5), x -> x.fine(-2),
            x -> x.fine(4), x -> x.least(-1, 0), x -> x.least(4, 0), x -> x.least(0, -2), x -> x.least(0, 3),
            x -> x.nets(0, -1), x -> x.nets(0, 2), x -> x.cut(0, 0, 0), x -> x.cut(0, 1, -1), x -> x.cut(0, 1, 2),
            x -> x.bribe(-1, 0), x -> x.bribe(3, 0), x -> x.bribe(0, -1), x -> x.bribe(0, 3), x -> x.waits(-1),
            x -> x.waits(17), x -> x.who(41, 0, 0), x -> x.who(0, -1, 0), x -> x.who(0, 5, 0),
            x -> x.origin(0, -1), x -> x.origin(0, 5));
        for (int odds = -1; odds <= 17; odds += 18) {
            int o = odds;
            calls.add(new Refused(LEAST_LONG + 2, x -> x.odds(o, 0)));
            calls.add(new Refused(LEAST_LONG + 2, x -> x.odds(8, o)));
        }
    }

    private static void badSheets(List<Refused> calls) {
        for (int sheet = -1; sheet <= 4; sheet += 5) {
            int s = sheet;
            bad(calls, x -> x.sheet(s, 0, 2), x -> x.lose(s), x -> x.put(s, 0, 0, 5), x -> x.copy(s, 0, 0, 0, 1),
                x -> x.copy(0, 0, s, 0, 1), x -> x.write(0, s));
            calls.add(new Refused(LEAST_INT, x -> x.get(s, 0, 0)));
        }
        for (int form = -1; form <= 3; form += 4) {
            int f = form;
            bad(calls, x -> x.sheet(0, f, 2), x -> x.put(0, f, 0, 5));
            calls.add(new Refused(LEAST_INT, x -> x.get(0, f, 0)));
        }
        bad(calls, x -> x.sheet(0, 0, 49), x -> x.write(41, 0), x -> x.count(-1), x -> x.count(9));
    }

    @SafeVarargs
    private static void bad(List<Refused> calls, ToLongFunction<SweptDownhill>... more) {
        for (ToLongFunction<SweptDownhill> call : more) {
            calls.add(new Refused(BAD, call));
        }
    }

    private static void changesNothing(Probe p, List<Refused> calls, int finding) {
        String before = all(busy());
        for (Refused refused : calls) {
            SweptDownhill x = busy();
            p.is(refused.want(), refused.call().applyAsLong(x));
            p.is(finding, x.count(8));
            p.is(1, all(x).equals(before) ? 1 : 0);
        }
    }

    /** A town in which much is told, with as many FALLS and SWEEPS as there may be, and without a CART. */
    private static SweptDownhill busy() {
        SweptDownhill x = town("9740", "01;12;23");
        x.set(3, 0, 40);
        for (int i = 0; i < 24; i++) {
            x.fall(2 * i, i % 5, i % 5, 1 + i % 9);
            x.sweep(2 * i + 1, i % 4);
        }
        x.rain(11, 1);
        for (int i = 0; i < 8; i++) {
            x.set(1, i, 20 + i);
            x.set(2, i, 1 + i);
        }
        for (int form = 0; form < 3; form++) {
            sheetOf(x, form, form, 4, 3, 2, 1);
        }
        return x;
    }

    /** All that an object holds, but for the latest FINDING; it is taken apart on the way. */
    private static String all(SweptDownhill x) {
        StringBuilder told = new StringBuilder();
        told.append(x.digest()).append(' ').append(x.fault(0)).append(' ').append(x.fault(1));
        for (int s = 0; s < 4; s++) {
            for (int i = 0; i < 4; i++) {
                told.append(' ').append(x.get(s, s % 3, i));
            }
            told.append(' ').append(x.lose(s));
        }
        for (int minute = 0; minute < 60; minute++) {
            told.append(' ').append(x.rain(minute, 0));
        }
        for (int what = 0; what < 3; what++) {
            for (int left = x.count(4 + what); left > 0; left--) {
                told.append(' ').append(x.undo(what)).append(' ').append(x.fine(NONE)).append(' ').append(x.judged());
            }
        }
        for (int k = 0; k < 8; k++) {
            told.append(' ').append(x.set(0, k, 1)).append(' ').append(x.set(1, k, 1)).append(' ').append(x.set(2, k, 1));
        }
        return told.append(' ').append(x.set(3, 0, 59)).append(' ').append(x.wipe(1)).append(x.wipe(0)).toString();
    }

    private void numbers() {
        edge("Refusals", "NONE is -1, BAD -2, NOT -3, FULL -4, and so they are answered", p -> {
            SweptDownhill x = new SweptDownhill();
            p.is(-1, SweptDownhill.NONE);
            p.is(-1, x.best());
            p.is(-2, SweptDownhill.BAD);
            p.is(-2, x.height(0));
            p.is(-3, SweptDownhill.NOT);
            p.is(-3, x.undo(0));
            p.is(-4, SweptDownhill.FULL);
            type(x, 0, "98765432");
            p.is(-4, x.type(0, '1'));
        });
        edge("Refusals", "where the answer is a long, BAD is the least long and 2 more", p -> {
            SweptDownhill x = town("95", "01");
            p.is(LEAST_LONG + 2, x.odds(-1, 0));
            p.is(LEAST_LONG + 2, x.odds(17, 1));
            p.is(LEAST_LONG + 2, x.odds(8, 2));
            p.is(0, x.odds(8, 0));
        });
    }
}
