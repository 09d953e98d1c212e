/** RATES, HOLDS, PRIDES and NINE, and promises 7 and 8. */
final class EdgesOfLaw extends Edges {
    EdgesOfLaw() {
        rates();
        holds();
        prides();
        nine();
        set();
        read();
    }

    private void rates() {
        edge("Terms", "KINDS are 0 to 4", p -> {
            SweptDownhill x = town("9", "");
            p.is(1, x.fall(0, 0, 0, 1));
            p.is(2, x.fall(0, 0, 4, 1));
            p.refused(x, BAD, () -> x.fall(0, 0, -1, 1));
            p.refused(x, BAD, () -> x.fall(0, 0, 5, 1));
            p.is(1, x.lies(0, 0, 4));
            p.is(BAD, x.lies(0, 0, 5));
            p.is(1, x.who(0, 4, 0));
            p.is(BAD, x.who(0, -1, 0));
            p.is(BAD, x.who(0, 5, 0));
            p.is(1, x.origin(0, 4));
            p.is(BAD, x.origin(0, -1));
            p.is(BAD, x.origin(0, 5));
            p.is(5, x.set(0, 4, 5));
            p.refused(x, BAD, () -> x.set(0, -1, 5));
            p.refused(x, BAD, () -> x.set(0, 5, 5));
        });
        edge("Terms", "a RATE is 0 at least", p -> {
            SweptDownhill x = town("9", "");
            x.fall(0, 0, WASHING, 9);
            p.is(5, x.set(0, WASHING, 0));
            p.is(0, x.fine(0));
            p.refused(x, BAD, () -> x.set(0, WASHING, -1));
        });
        edge("Terms", "a RATE is 9 at most", p -> {
            SweptDownhill x = town("9", "");
            x.fall(0, 0, ASH, 9);
            p.is(1, x.set(0, ASH, 9));
            p.is(81, x.fine(0));
            p.refused(x, BAD, () -> x.set(0, ASH, 10));
        });
        edge("Terms", "RATES at first are one more than the number", p -> {
            SweptDownhill x = town("9", "");
            for (int kind = 0; kind < 5; kind++) {
                x.fall(0, 0, kind, 1);
                p.is(kind + 1, x.fine(NONE));
                x.undo(0);
            }
            p.row("1 2 3 4 5", 5, kind -> x.set(0, kind, 7));
        });
    }

    private void holds() {
        edge("Terms", "a HOLD of each of the numbers 0 to 7, also of DOORS that are not there", p -> {
            SweptDownhill x = new SweptDownhill();
            p.is(99, x.set(1, 0, 5));
            p.is(99, x.set(1, 7, 5));
            p.refused(x, BAD, () -> x.set(1, -1, 5));
            p.refused(x, BAD, () -> x.set(1, 8, 5));
        });
        edge("Terms", "a HOLD is 0 at least", p -> {
            SweptDownhill x = town("95", "01");
            heap(x, 5, 0, 1);
            x.sweep(4, 0);
            x.sweep(5, 0);
            p.is(99, x.set(1, 1, 0));
            p.is(1, x.judged());
            p.refused(x, BAD, () -> x.set(1, 1, -1));
        });
        edge("Terms", "a HOLD is 99 at most", p -> {
            SweptDownhill x = new SweptDownhill();
            p.is(99, x.set(1, 1, 99));
            p.refused(x, BAD, () -> x.set(1, 1, 100));
        });
        edge("Terms", "a HOLD is 99 at first", p -> {
            SweptDownhill x = town("95", "01");
            heap(x, 0, 0, 99);
            x.sweep(0, 0);
            p.is(NONE, x.judged());
            p.heaps("0 99", x, 0);
            x.fall(0, 0, ASH, 1);
            p.is(0, x.judged());
            p.row("99 99 99 99 99 99 99 99", 8, door -> x.set(1, door, 7));
        });
    }

    private void prides() {
        edge("======== 3", "a PRIDE of each of the numbers 0 to 7, also of DOORS that are not there", p -> {
            SweptDownhill x = new SweptDownhill();
            p.is(1, x.set(2, 0, 5));
            p.is(1, x.set(2, 7, 5));
            p.refused(x, BAD, () -> x.set(2, -1, 5));
            p.refused(x, BAD, () -> x.set(2, 8, 5));
        });
        edge("======== 3", "a PRIDE is 1 at least", p -> {
            SweptDownhill x = new SweptDownhill();
            p.is(1, x.set(2, 3, 1));
            p.refused(x, BAD, () -> x.set(2, 3, 0));
            p.is(1, x.set(2, 3, 1));
        });
        edge("======== 3", "a PRIDE is 9 at most", p -> {
            SweptDownhill x = town("95", "01");
            x.fall(0, 0, ASH, 1);
            p.is(1, x.set(2, 1, 9));
            p.is(9, x.bribe(0, 0));
            p.refused(x, BAD, () -> x.set(2, 1, 10));
            p.is(9, x.set(2, 1, 9));
        });
        edge("======== 3", "a PRIDE is 1 at first", p -> {
            SweptDownhill x = town("95", "01");
            x.fall(0, 0, ASH, 4);
            p.row("4 4 0", 3, what -> x.bribe(0, what));
            p.row("1 1 1 1 1 1 1 1", 8, door -> x.set(2, door, 7));
        });
    }

    private void nine() {
        edge("Terms", "NINE is 0 at least, and then there is minute 0 alone", p -> {
            SweptDownhill x = town("9", "");
            x.fall(0, 0, ASH, 2);
            x.fall(1, 0, ASH, 4);
            p.is(59, x.set(3, 0, 0));
            p.is(2, x.fine(0));
            p.is(0, x.count(7));
            p.is(2, x.lies(0, 0, NONE));
            p.is(BAD, x.lies(0, 1, NONE));
            p.refused(x, BAD, () -> x.set(3, 0, -1));
        });
        edge("Terms", "NINE is 59 at most", p -> {
            SweptDownhill x = new SweptDownhill();
            x.set(3, 0, 5);
            p.is(5, x.set(3, 0, 59));
            p.refused(x, BAD, () -> x.set(3, 0, 60));
            p.is(59, x.count(7));
        });
        edge("Terms", "NINE is 59 at first", p -> {
            SweptDownhill x = town("9", "");
            p.is(59, x.count(7));
            x.fall(59, 0, ASH, 3);
            p.is(3, x.fine(0));
            p.is(0, x.lies(0, 58, NONE));
            p.is(3, x.lies(0, 59, NONE));
        });
        edge("Terms", "NINE is the last minute: what comes behind it is not there, and is there again with a later NINE", p -> {
            SweptDownhill x = ladder();
            x.fall(7, 0, ASH, 3);
            x.sweep(8, 0);
            x.cart(9, 1);
            x.set(3, 0, 6);
            p.is(0, x.fine(NONE));
            x.set(3, 0, 7);
            p.is(3, x.fine(0));
            x.set(3, 0, 8);
            p.is(3, x.fine(1));
            x.set(3, 0, 9);
            p.is(0, x.fine(NONE));
        });
    }

    private void set() {
        edge("7 set", "another k of NINE than 0 is BAD", p -> {
            SweptDownhill x = new SweptDownhill();
            p.refused(x, BAD, () -> x.set(3, -1, 5));
            p.refused(x, BAD, () -> x.set(3, 1, 5));
            p.is(59, x.set(3, 0, 5));
        });
        edge("7 set", "another what than 0 to 3 is BAD", p -> {
            SweptDownhill x = new SweptDownhill();
            p.refused(x, BAD, () -> x.set(-1, 0, 5));
            p.refused(x, BAD, () -> x.set(4, 0, 5));
        });
        edge("7 set", "what it was: also of one that becomes what it is", p -> {
            SweptDownhill x = new SweptDownhill();
            p.row("3 6 6", 3, i -> x.set(0, BONES, 6));
            p.row("99 6 6", 3, i -> x.set(1, BONES, 6));
            p.row("1 6 6", 3, i -> x.set(2, BONES, 6));
            p.row("59 6 6", 3, i -> x.set(3, 0, 6));
        });
    }

    private void read() {
        edge("8 read", "HOLDS of DOORS 0 on, also of DOORS that are not there", p -> {
            SweptDownhill x = new SweptDownhill();
            sheetOf(x, 0, BYTES, 11, 12, 13);
            p.is(3, x.read(0));
            p.row("11 12 13 99 99 99 99 99", 8, door -> x.set(1, door, 5));
        });
        edge("8 read", "an item of 0 is a HOLD, one below is not", p -> {
            SweptDownhill x = new SweptDownhill();
            sheetOf(x, 0, SHORTS, 5, 0, -1, 6);
            p.is(2, x.read(0));
            p.row("5 0 99 99", 4, door -> x.set(1, door, 5));
        });
        edge("8 read", "an item of 99 is a HOLD, one above is not", p -> {
            SweptDownhill x = new SweptDownhill();
            sheetOf(x, 0, INTS, 5, 99, 7, 100, 6);
            x.set(1, 1, 3);
            p.is(3, x.read(0));
            p.row("5 99 7 99 99", 5, door -> x.set(1, door, 5));
        });
        edge("8 read", "the first item is none: nothing is read", p -> {
            SweptDownhill x = new SweptDownhill();
            sheetOf(x, 0, INTS, 100, 5);
            p.is(0, x.read(0));
            p.row("99 99", 2, door -> x.set(1, door, 5));
        });
        edge("8 read", "eight at most", p -> {
            SweptDownhill x = new SweptDownhill();
            sheetOf(x, 0, BYTES, 1, 2, 3, 4, 5, 6, 7, 8, 9);
            p.is(8, x.read(0));
            sheetOf(x, 1, BYTES, 1, 2, 3, 4, 5, 6, 7, 8, 100);
            p.is(8, x.read(1));
            p.row("1 2 3 4 5 6 7 8", 8, door -> x.set(1, door, 5));
        });
        edge("8 read", "of a SHEET without items nothing is read", p -> {
            SweptDownhill x = new SweptDownhill();
            x.sheet(0, BYTES, 0);
            p.is(0, x.read(0));
            p.is(0, x.count(8));
            p.is(99, x.set(1, 0, 5));
        });
        edge("8 read", "the HOLDS bind at once", p -> {
            SweptDownhill x = town("95", "01");
            x.fall(0, 0, ASH, 5);
            x.sweep(0, 0);
            sheetOf(x, 0, BYTES, 0, 4);
            p.is(NONE, x.judged());
            p.is(2, x.read(0));
            p.is(0, x.judged());
            p.heaps("5 0", x, 59);
        });
        edge("8 read", "NULL: the SHEET is LOST", p -> {
            SweptDownhill x = new SweptDownhill();
            p.refused(x, NULL, () -> x.read(3));
            p.is(1, x.count(8));
            p.is(99, x.set(1, 0, 5));
        });
        edge("8 read", "BAD: a SHEET that is not 0 to 3", p -> {
            SweptDownhill x = new SweptDownhill();
            p.refused(x, BAD, () -> x.read(-1));
            p.refused(x, BAD, () -> x.read(4));
            p.is(0, x.count(8));
        });
    }
}
