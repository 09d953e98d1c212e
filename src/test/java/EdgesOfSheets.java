import java.math.BigInteger;

/** SHEETS, their FORMS and items, count() and digest(), and promises 27 to 34. */
final class EdgesOfSheets extends Edges {
    EdgesOfSheets() {
        sheets();
        forms();
        items();
        puts();
        copies();
        copiesRefused();
        writes();
        counts();
        digests();
    }

    private static void items(Probe p, String want, SweptDownhill x, int s, int form, int many) {
        p.row(want, many, i -> x.get(s, form, i));
    }

    private void sheets() {
        edge("Terms", "SHEETS are 0 to 3", p -> {
            SweptDownhill x = town("9", "");
            p.is(1, x.sheet(0, BYTES, 1));
            p.is(2, x.sheet(3, BYTES, 2));
            p.is(1, x.put(3, BYTES, 0, 7));
            p.is(7, x.get(3, BYTES, 0));
            p.is(1, x.copy(3, 0, 0, 0, 1));
            p.is(1, x.write(0, 3));
            p.is(2, x.read(3));
            p.is(2, x.lose(3));
            for (int s = -1; s <= 4; s += 5) {
                int none = s;
                p.refused(x, BAD, () -> x.sheet(none, BYTES, 1));
                p.refused(x, BAD, () -> x.put(none, BYTES, 0, 7));
                p.refused(x, LEAST_INT, () -> x.get(none, BYTES, 0));
                p.refused(x, BAD, () -> x.copy(none, 0, 0, 0, 1));
                p.refused(x, BAD, () -> x.copy(0, 0, none, 0, 1));
                p.refused(x, BAD, () -> x.write(0, none));
                p.refused(x, BAD, () -> x.read(none));
                p.refused(x, BAD, () -> x.lose(none));
            }
        });
        edge("Terms", "SHEETS are LOST at first", p -> {
            SweptDownhill x = new SweptDownhill();
            for (int s = 0; s < 4; s++) {
                int lost = s;
                p.refused(x, NULL, () -> x.put(lost, BYTES, 0, 7));
                p.refused(x, NULL, () -> x.copy(lost, 0, lost, 0, 0));
            }
        });
        edge("28 lose", "how many items it had: none, or 48, and then it is LOST", p -> {
            SweptDownhill x = new SweptDownhill();
            x.sheet(0, INTS, 0);
            x.sheet(1, INTS, 48);
            p.is(0, x.lose(0));
            p.is(48, x.lose(1));
            p.is(NULL, x.lose(0));
            p.is(NULL, x.lose(1));
            p.is(NULL, x.put(1, INTS, 0, 7));
        });
        edge("27 sheet", "a SHEET is a new row, also one that was there or was LOST", p -> {
            SweptDownhill x = new SweptDownhill();
            sheetOf(x, 0, INTS, 7, 8, 9);
            p.is(2, x.sheet(0, INTS, 2));
            items(p, "0 0", x, 0, INTS, 2);
            p.is(2, x.lose(0));
            p.is(3, x.sheet(0, SHORTS, 3));
            items(p, "0 0 0", x, 0, SHORTS, 3);
        });
        edge("27 sheet", "each SHEET is a row of its own", p -> {
            SweptDownhill x = new SweptDownhill();
            for (int s = 0; s < 4; s++) {
                sheetOf(x, s, INTS, s + 5);
            }
            p.row("5 6 7 8", 4, s -> x.get(s, INTS, 0));
        });
    }

    private void forms() {
        edge("Terms", "FORM 0: items are bytes, -128 to 127", p -> {
            SweptDownhill x = new SweptDownhill();
            sheetOf(x, 0, BYTES, 127, 128, -128, -129, 255, 256, 99);
            items(p, "127 -128 -128 127 -1 0 99", x, 0, BYTES, 7);
        });
        edge("Terms", "FORM 1: items are shorts, -32768 to 32767", p -> {
            SweptDownhill x = new SweptDownhill();
            sheetOf(x, 0, SHORTS, 32767, 32768, -32768, -32769, 65535, 65536, 128);
            items(p, "32767 -32768 -32768 32767 -1 0 128", x, 0, SHORTS, 7);
        });
        edge("Terms", "FORM 2: items are ints", p -> {
            SweptDownhill x = new SweptDownhill();
            sheetOf(x, 0, INTS, MOST_INT, LEAST_INT, 32768, 65536, -1);
            items(p, "2147483647 -2147483648 32768 65536 -1", x, 0, INTS, 5);
        });
        edge("Terms", "FORMS are 0 to 2", p -> {
            SweptDownhill x = new SweptDownhill();
            p.is(1, x.sheet(0, 0, 1));
            p.is(1, x.sheet(1, 2, 1));
            for (int form = -1; form <= 3; form += 4) {
                int none = form;
                p.refused(x, BAD, () -> x.sheet(0, none, 1));
                p.refused(x, BAD, () -> x.put(0, none, 0, 7));
                p.refused(x, LEAST_INT, () -> x.get(0, none, 0));
            }
            p.is(0, x.count(8));
        });
    }

    private void items() {
        edge("Terms", "a SHEET has 48 items at most", p -> {
            SweptDownhill x = new SweptDownhill();
            p.is(48, x.sheet(0, BYTES, 48));
            p.is(1, x.put(0, BYTES, 47, 7));
            p.is(7, x.get(0, BYTES, 47));
            p.refused(x, BAD, () -> x.sheet(0, BYTES, 49));
            p.refused(x, BAD, () -> x.sheet(0, BYTES, MOST_INT));
            p.is(0, x.count(8));
            p.is(48, x.lose(0));
        });
        edge("Terms", "a SHEET has 0 items at least", p -> {
            SweptDownhill x = new SweptDownhill();
            p.is(0, x.sheet(0, BYTES, 0));
            p.is(INDEX, x.put(0, BYTES, 0, 7));
            p.is(0, x.lose(0));
        });
        edge("Terms", "items are 0 at first", p -> {
            SweptDownhill x = new SweptDownhill();
            x.sheet(0, INTS, 48);
            for (int i = 0; i < 48; i++) {
                p.is(0, x.get(0, INTS, i));
                x.put(0, INTS, i, 7);
            }
            x.sheet(0, SHORTS, 48);
            for (int i = 0; i < 48; i++) {
                p.is(0, x.get(0, SHORTS, i));
            }
        });
    }

    private void puts() {
        edge("29 put", "the lowest bits that it has, with its sign", p -> {
            SweptDownhill x = new SweptDownhill();
            sheetOf(x, 0, BYTES, 0x1FF7F, 0x1FF80, LEAST_INT);
            items(p, "127 -128 0", x, 0, BYTES, 3);
            sheetOf(x, 1, SHORTS, 0x17FFF, 0x18000, LEAST_INT);
            items(p, "32767 -32768 0", x, 1, SHORTS, 3);
        });
        edge("29 put", "item 0 and the last one", p -> {
            SweptDownhill x = new SweptDownhill();
            x.sheet(0, BYTES, 3);
            p.is(1, x.put(0, BYTES, 0, 5));
            p.is(1, x.put(0, BYTES, 2, 6));
            items(p, "5 0 6", x, 0, BYTES, 3);
        });
        edge("30 get", "NULL, CAST and INDEX are the least int, and count() 8 tells which", p -> {
            SweptDownhill x = new SweptDownhill();
            x.sheet(0, SHORTS, 2);
            p.is(LEAST_INT, x.get(1, SHORTS, 0));
            p.is(1, x.count(8));
            p.is(LEAST_INT, x.get(0, SHORTS, 2));
            p.is(2, x.count(8));
            p.is(LEAST_INT, x.get(0, INTS, 0));
            p.is(3, x.count(8));
            p.is(LEAST_INT, x.get(0, SHORTS, -1));
            p.is(2, x.count(8));
        });
        edge("30 get", "BAD is the least int, and no FINDING", p -> {
            SweptDownhill x = new SweptDownhill();
            p.is(LEAST_INT, x.get(4, BYTES, 0));
            p.is(LEAST_INT, x.get(0, 3, 0));
            p.is(0, x.count(8));
        });
        edge("30 get", "an item that is the least int is no FINDING", p -> {
            SweptDownhill x = new SweptDownhill();
            sheetOf(x, 0, INTS, LEAST_INT);
            p.is(LEAST_INT, x.get(0, INTS, 0));
            p.is(0, x.count(8));
        });
    }

    private void copies() {
        edge("31 copy", "from i on and from j on, n items and no others", p -> {
            SweptDownhill x = new SweptDownhill();
            sheetOf(x, 0, INTS, 1, 2, 3, 4, 5);
            sheetOf(x, 1, INTS, 6, 7, 8, 9);
            p.is(1, x.copy(0, 3, 1, 1, 2));
            items(p, "6 4 5 9", x, 1, INTS, 4);
            items(p, "1 2 3 4 5", x, 0, INTS, 5);
        });
        edge("31 copy", "perhaps s, as they were: onto itself, up and down", p -> {
            SweptDownhill x = new SweptDownhill();
            sheetOf(x, 0, BYTES, 1, 2, 3, 4, 5);
            p.is(1, x.copy(0, 0, 0, 1, 4));
            items(p, "1 1 2 3 4", x, 0, BYTES, 5);
            p.is(1, x.copy(0, 1, 0, 0, 4));
            items(p, "1 2 3 4 4", x, 0, BYTES, 5);
        });
        edge("31 copy", "all items of a SHEET, up to 48", p -> {
            SweptDownhill x = new SweptDownhill();
            x.sheet(0, BYTES, 48);
            x.sheet(1, BYTES, 48);
            x.put(0, BYTES, 0, 5);
            x.put(0, BYTES, 47, 6);
            p.is(1, x.copy(0, 0, 1, 0, 48));
            p.is(5, x.get(1, BYTES, 0));
            p.is(6, x.get(1, BYTES, 47));
            p.is(1, x.copy(0, 47, 1, 0, 1));
            p.is(6, x.get(1, BYTES, 0));
        });
        edge("31 copy", "of n 0: i or j may be the size, and not above it", p -> {
            SweptDownhill x = new SweptDownhill();
            sheetOf(x, 0, INTS, 1, 2, 3);
            sheetOf(x, 1, INTS, 4, 5);
            p.is(1, x.copy(0, 3, 1, 2, 0));
            p.is(0, x.count(8));
            p.refused(x, INDEX, () -> x.copy(0, 4, 1, 2, 0));
            p.refused(x, INDEX, () -> x.copy(0, 3, 1, 3, 0));
            x.sheet(2, INTS, 0);
            p.is(1, x.copy(2, 0, 2, 0, 0));
            p.refused(x, INDEX, () -> x.copy(2, 1, 2, 0, 0));
            items(p, "1 2 3", x, 0, INTS, 3);
            items(p, "4 5", x, 1, INTS, 2);
        });
    }

    private void copiesRefused() {
        edge("31 copy", "INDEX: i, j or n below 0", p -> {
            SweptDownhill x = new SweptDownhill();
            sheetOf(x, 0, INTS, 1, 2, 3);
            p.refused(x, INDEX, () -> x.copy(0, -1, 0, 0, 1));
            p.refused(x, INDEX, () -> x.copy(0, 0, 0, -1, 1));
            p.refused(x, INDEX, () -> x.copy(0, 0, 0, 0, -1));
            p.refused(x, INDEX, () -> x.copy(0, -1, 0, 0, 0));
            p.refused(x, INDEX, () -> x.copy(0, 0, 0, -1, 0));
            p.refused(x, INDEX, () -> x.copy(0, LEAST_INT, 0, 0, 1));
            p.refused(x, INDEX, () -> x.copy(0, 0, 0, 0, LEAST_INT));
            p.is(2, x.count(8));
            items(p, "1 2 3", x, 0, INTS, 3);
        });
        edge("31 copy", "INDEX: not so many items there, in s or in t", p -> {
            SweptDownhill x = new SweptDownhill();
            sheetOf(x, 0, INTS, 1, 2, 3);
            sheetOf(x, 1, INTS, 4, 5);
            p.refused(x, INDEX, () -> x.copy(0, 0, 1, 0, 3));
            p.refused(x, INDEX, () -> x.copy(1, 0, 0, 0, 3));
            p.refused(x, INDEX, () -> x.copy(0, 2, 1, 0, 2));
            p.refused(x, INDEX, () -> x.copy(0, 0, 1, 1, 2));
            p.refused(x, INDEX, () -> x.copy(0, MOST_INT, 1, 0, 1));
            p.refused(x, INDEX, () -> x.copy(0, 0, 1, MOST_INT, 1));
            p.refused(x, INDEX, () -> x.copy(0, 1, 1, 1, MOST_INT));
            items(p, "4 5", x, 1, INTS, 2);
            p.is(1, x.copy(0, 1, 1, 0, 2));
            items(p, "2 3", x, 1, INTS, 2);
        });
        edge("31 copy", "NULL: s or t is LOST", p -> {
            SweptDownhill x = new SweptDownhill();
            x.sheet(0, BYTES, 3);
            p.refused(x, NULL, () -> x.copy(1, 0, 0, 0, 1));
            p.refused(x, NULL, () -> x.copy(0, 0, 1, 0, 1));
            p.refused(x, NULL, () -> x.copy(1, 0, 1, 0, 0));
            p.is(1, x.count(8));
        });
        edge("31 copy", "STORE: unlike FORMS, also of n 0", p -> {
            SweptDownhill x = new SweptDownhill();
            sheetOf(x, 0, BYTES, 1);
            sheetOf(x, 1, SHORTS, 2);
            p.refused(x, STORE, () -> x.copy(0, 0, 1, 0, 1));
            p.refused(x, STORE, () -> x.copy(1, 0, 0, 0, 0));
            p.is(4, x.count(8));
            p.is(2, x.get(1, SHORTS, 0));
        });
    }

    private void writes() {
        edge("32 write", "as many as there are items", p -> {
            SweptDownhill x = town("950", "");
            x.fall(0, 0, ASH, 4);
            x.fall(0, 1, ASH, 5);
            x.fall(0, 2, ASH, 6);
            x.sheet(0, BYTES, 2);
            x.sheet(1, BYTES, 0);
            p.is(2, x.write(0, 0));
            items(p, "4 5", x, 0, BYTES, 2);
            p.is(0, x.write(0, 1));
            p.is(0, x.count(8));
        });
        edge("32 write", "as many as there are DOORS, and the other items stay", p -> {
            SweptDownhill x = town("95", "");
            x.fall(0, 0, ASH, 4);
            sheetOf(x, 0, BYTES, 7, 8, 9);
            p.is(2, x.write(0, 0));
            items(p, "4 0 9", x, 0, BYTES, 3);
            x.wipe(0);
            p.is(0, x.write(0, 0));
            items(p, "4 0 9", x, 0, BYTES, 3);
        });
        edge("32 write", "behind a minute of 0 to NINE", p -> {
            SweptDownhill x = town("9", "");
            x.set(3, 0, 4);
            x.fall(0, 0, ASH, 1);
            x.fall(4, 0, WASHING, 2);
            x.fall(5, 0, ASH, 4);
            x.sheet(0, BYTES, 1);
            p.is(1, x.write(0, 0));
            p.is(1, x.get(0, BYTES, 0));
            p.is(1, x.write(4, 0));
            p.is(3, x.get(0, BYTES, 0));
            p.refused(x, BAD, () -> x.write(-1, 0));
            p.refused(x, BAD, () -> x.write(5, 0));
            p.is(3, x.get(0, BYTES, 0));
            x.set(3, 0, 59);
            p.is(1, x.write(59, 0));
            p.refused(x, BAD, () -> x.write(60, 0));
        });
        edge("29 put", "the lowest bits with the sign by write(), too", p -> {
            SweptDownhill x = town("9", "");
            x.sheet(0, BYTES, 1);
            x.sheet(1, SHORTS, 1);
            heap(x, 0, 0, 127);
            x.write(0, 0);
            p.is(127, x.get(0, BYTES, 0));
            x.fall(0, 0, ASH, 1);
            x.write(0, 0);
            x.write(0, 1);
            p.is(-128, x.get(0, BYTES, 0));
            p.is(128, x.get(1, SHORTS, 0));
        });
        edge("32 write", "NULL: the SHEET is LOST", p -> {
            SweptDownhill x = town("9", "");
            p.refused(x, NULL, () -> x.write(0, 0));
            p.is(1, x.count(8));
        });
    }

    private void counts() {
        edge("33 count", "0 to 8 each its own", p -> {
            SweptDownhill x = town("9753", "01;12;23");
            heap(x, 0, 0, 45);
            for (int i = 0; i < 6; i++) {
                x.sweep(0, 0);
                x.cart(0, 0);
            }
            x.undo(2);
            x.cart(0, 0);
            x.cart(0, 0);
            x.set(3, 0, 17);
            x.sheet(0, BYTES, -1);
            p.row("4 3 4 8 5 6 7 17 5", 9, x::count);
        });
        edge("33 count", "BAD: another what than 0 to 8", p -> {
            SweptDownhill x = new SweptDownhill();
            p.is(BAD, x.count(-1));
            p.is(BAD, x.count(9));
            p.is(0, x.count(8));
        });
        edge("33 count", "8 is 0 before any FINDING", p -> {
            SweptDownhill x = town("95", "01");
            x.undo(0);
            x.waits(0);
            x.set(4, 0, 0);
            x.odds(17, 0);
            x.sheet(4, BYTES, -1);
            p.is(0, x.count(8));
        });
        edge("33 count", "8 is the number of the latest FINDING: a call that is taken leaves it", p -> {
            SweptDownhill x = new SweptDownhill();
            x.sheet(0, BYTES, -1);
            p.is(5, x.count(8));
            x.lose(0);
            p.is(1, x.count(8));
            x.sheet(0, BYTES, 1);
            x.put(0, BYTES, 0, 3);
            x.get(0, BYTES, 0);
            p.is(1, x.count(8));
        });
    }

    private void digests() {
        edge("34 digest", "h is 17; of no DOORS and no STREETS nothing is told; cut() and who() as they are told", p -> {
            long h = Probe.fold(17, 0, 0, 0, 0, 0, 0, 0, 59, -1, -1);
            h = Probe.fold(h, 0, -1, 0, -1, 0, -2, -2, 0, 0, 1, -2, -1);
            p.is(h, new SweptDownhill().digest());
        });
        edge("34 digest", "of one DOOR cut() is BAD and who() is not", p -> {
            SweptDownhill x = town("7", "");
            long h = Probe.fold(17, 1, 0, 1, 0, 0, 0, 0, 59, -1, -1);
            h = Probe.fold(h, 7, 0, 0, 0, 0, 0, 0, 0, 0, 0);
            h = Probe.fold(h, 0, -1, 0, -1, 0, -2, -2, 0, 0, 1, 1, 0);
            p.is(h, x.digest());
        });
        edge("34 digest", "of each thing all that is told of it, then of the next one", p -> {
            SweptDownhill x = town("90", "01;01");
            x.fall(0, 0, GLASS, 2);
            x.fall(1, 1, LIVING, 3);
            x.set(2, 1, 3);
            long h = Probe.fold(17, 2, 2, 2, 5, 2, 0, 0, 59, -1, -1);
            h = Probe.fold(h, 9, 4, 0, 2, 0, 1, 0, 0, 0, 2);
            h = Probe.fold(h, 0, 12, 1, 0, 0, 0, 0, 2, 0, 0);
            h = Probe.fold(h, 0, 1, 12, 4, 8);
            h = Probe.fold(h, 0, 1, 12, 4, 8);
            h = Probe.fold(h, 16, -1, 16, -1, 16, 2, 3, 0, 16, 1, 1, 1);
            p.is(h, x.digest());
        });
        edge("34 digest", "the FAULT of each text, and its bytes, though it is as if it was empty", p -> {
            long h = Probe.fold(17, 2, 0, 2, 3, 0, 0, 0, 59, -1, 3);
            h = Probe.fold(h, 9, 0, 0, 0, 0, 0, 0, 0, 0, 0);
            h = Probe.fold(h, 5, 0, 0, 0, 0, 0, 0, 0, 0, 0);
            h = Probe.fold(h, 0, -1, 0, -1, 0, 0, 0, 0, 0, 1, 1, 0);
            p.is(h, town("95", "01;").digest());
            h = Probe.fold(17, 0, 0, 3, 2, 0, 0, 0, 59, 2, 0);
            h = Probe.fold(h, 0, -1, 0, -1, 0, -2, -2, 0, 0, 1, -2, -1);
            p.is(h, town("95x", "01").digest());
        });
        edge("34 digest", "who(0, 0, 0): of a barrow of KIND 0 in minute 0", p -> {
            SweptDownhill x = ladder();
            x.fall(0, 0, ASH, 5);
            x.sweep(0, 0);
            x.set(1, 1, 5);
            p.is(0, x.who(0, ASH, 0));
            p.is(1, x.who(1, ASH, 0));
            p.is(1, x.who(0, GLASS, 0));
            long h = Probe.fold(17, 4, 3, 4, 8, 1, 1, 0, 59, -1, -1);
            h = Probe.fold(h, 9, 0, 0, 14, 0, 0, 0, 0, 0, 0);
            h = Probe.fold(h, 6, 5, 1, 12, 1, 0, 0, 0, 0, 5);
            h = Probe.fold(h, 3, 0, 3, 8, 0, 0, 0, 0, 0, 0);
            h = Probe.fold(h, 0, 0, 7, 0, 0, 0, 0, 0, 0, 0);
            h = Probe.fold(h, 0, 1, 0, 0, 0);
            h = Probe.fold(h, 1, 2, 5, 5, 0);
            h = Probe.fold(h, 2, 3, 0, 0, 0);
            h = Probe.fold(h, 5, -1, 5, -1, 5, 1, 1, 7, 5, 1, 0, 1);
            p.is(h, x.digest());
        });
        edge("34 digest", "least(1, NONE and 0), least(2, NONE), odds(4) above and below", p -> {
            SweptDownhill x = ladder();
            x.fall(59, 0, ASH, 3);
            x.fall(59, 1, ASH, 2);
            x.fall(59, 2, ASH, 1);
            x.cart(59, 3);
            long h = Probe.fold(17, 4, 3, 4, 8, 3, 0, 1, 59, -1, -1);
            h = Probe.fold(h, 9, 3, 0, 14, 1, 0, 0, 0, 0, 0);
            h = Probe.fold(h, 6, 2, 1, 12, 2, 0, 0, 0, 0, 0);
            h = Probe.fold(h, 3, 1, 3, 8, 4, 0, 0, 0, 0, 0);
            h = Probe.fold(h, 0, 0, 7, 0, 0, 0, 0, 0, 0, 0);
            h = Probe.fold(h, 0, 1, 3, 3, 0);
            h = Probe.fold(h, 1, 2, 2, 2, 0);
            h = Probe.fold(h, 2, 3, 1, 1, 0);
            h = Probe.fold(h, 6, -1, 5, 2, 3, 1, 1, 7, 9, 2, 1, 0);
            p.is(h, x.digest());
        });
        edge("34 digest", "as longs that wrap", p -> {
            BigInteger h = BigInteger.valueOf(17);
            for (int told : new int[] {0, 0, 0, 0, 0, 0, 0, 59, -1, -1, 0, -1, 0, -1, 0, -2, -2, 0, 0, 1, -2, -1}) {
                h = h.multiply(BigInteger.valueOf(31)).add(BigInteger.valueOf(told));
            }
            p.is(1, h.bitLength() > 64 ? 1 : 0);
            p.is(h.longValue(), new SweptDownhill().digest());
        });
        edge("34 digest", "what is a SHEET's, and the latest FINDING, is not in it", p -> {
            SweptDownhill x = town("950", "01;12");
            long before = x.digest();
            x.sheet(0, BYTES, 9);
            x.put(0, BYTES, 0, 7);
            x.lose(3);
            p.is(1, x.count(8));
            p.is(before, x.digest());
        });
    }
}
