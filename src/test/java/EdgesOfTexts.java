/** DOORS and STREETS as texts, their FAULTS, and promises 1 to 6. */
final class EdgesOfTexts extends Edges {
    EdgesOfTexts() {
        object();
        bytes();
        figures();
        streetsInOrder();
        faults();
        likeEmpty();
        promises();
    }

    private void object() {
        edge("What it is", "used for at most 512 calls: the 512th answers like the first", p -> {
            SweptDownhill x = new SweptDownhill();
            for (int call = 1; call <= 512; call++) {
                p.is(NONE, x.judged());
            }
        });
        edge("1", "a new object has empty texts", p -> {
            SweptDownhill x = new SweptDownhill();
            p.row("0 0 0 0", 4, x::count);
            p.row("-1 -1", 2, x::fault);
        });
        edge("1", "a new object has no dirt", p -> {
            SweptDownhill x = new SweptDownhill();
            p.row("0 0 0", 3, what -> x.count(4 + what));
            p.is(0, x.fine(NONE));
            type(x, 0, "99999999");
            p.heaps("0 0 0 0 0 0 0 0", x, 59);
        });
        edge("1", "all SHEETS of a new object are LOST", p -> {
            SweptDownhill x = new SweptDownhill();
            p.row("-11 -11 -11 -11", 4, x::lose);
        });
    }

    private void bytes() {
        edge("1 DOORS", "a text of up to 8 bytes", p -> {
            SweptDownhill x = new SweptDownhill();
            p.row("1 2 3 4 5 6 7 8 -4", 9, i -> x.type(0, '0' + i));
            p.is(8, x.count(0));
            p.is(8, x.count(2));
        });
        edge("Terms", "STREETS are a text of up to 40 bytes", p -> {
            SweptDownhill x = new SweptDownhill();
            for (int size = 1; size <= 40; size++) {
                p.is(size, x.type(1, ';'));
            }
            p.is(FULL, x.type(1, ';'));
            p.is(40, x.count(3));
        });
        edge("2 type", "a byte is 0 at least", p -> {
            SweptDownhill x = new SweptDownhill();
            p.is(1, x.type(0, 0));
            p.is(1, x.type(1, 0));
            p.refused(x, BAD, () -> x.type(0, -1));
            p.refused(x, BAD, () -> x.type(1, LEAST_INT));
        });
        edge("2 type", "a byte is 255 at most", p -> {
            SweptDownhill x = new SweptDownhill();
            p.is(1, x.type(0, 255));
            p.is(1, x.type(1, 255));
            p.refused(x, BAD, () -> x.type(0, 256));
            p.refused(x, BAD, () -> x.type(1, MOST_INT));
        });
        edge("2 type", "the texts are 0 and 1", p -> {
            SweptDownhill x = new SweptDownhill();
            p.refused(x, BAD, () -> x.type(-1, '5'));
            p.refused(x, BAD, () -> x.type(2, '5'));
            p.row("0 0 0 0", 4, x::count);
        });
        edge("2 type", "how many: bytes that are a FAULT are counted, too", p -> {
            SweptDownhill x = town("x", "yz");
            p.is(2, x.type(0, '9'));
            p.is(3, x.type(1, ';'));
        });
        edge("2 type", "BAD comes ahead of FULL", p -> {
            SweptDownhill x = town("98765432", "");
            p.is(BAD, x.type(0, 256));
            p.is(BAD, x.type(0, -1));
            p.is(FULL, x.type(0, '1'));
        });
        edge("2 type", "FULL: the text stays as it was", p -> {
            SweptDownhill doors = town("98765432", "01");
            p.refused(doors, FULL, () -> doors.type(0, 'x'));
            p.row("9 8 7 6 5 4 3 2", 8, doors::height);
            SweptDownhill streets = town("95", TWELVE + ";;;;;");
            p.refused(streets, FULL, () -> streets.type(1, ';'));
            p.is(36, streets.fault(1));
        });
    }

    private void figures() {
        edge("1 DOORS", "a HEIGHT is 0 at least", p -> {
            p.is(0, town("0", "").height(0));
            p.is(NONE, town("0", "").fault(0));
            p.is(0, town("/", "").fault(0));
            p.is(BAD, town("/", "").height(0));
        });
        edge("1 DOORS", "a HEIGHT is 9 at most", p -> {
            p.is(9, town("9", "").height(0));
            p.is(NONE, town("9", "").fault(0));
            p.is(0, town(":", "").fault(0));
            p.is(BAD, town(":", "").height(0));
        });
        edge("1 DOORS", "of DOORS 0 on: the first byte is DOOR 0", p -> {
            SweptDownhill x = town("703", "");
            p.row("7 0 3 -2", 4, x::height);
            p.is(3, x.count(0));
        });
    }

    private void streetsInOrder() {
        edge("Terms", "of STREETS there are 12 at most", p -> {
            SweptDownhill x = town("95", TWELVE);
            p.is(NONE, x.fault(1));
            p.is(12, x.count(1));
            type(x, 1, ";01");
            p.is(36, x.fault(1));
            p.is(0, x.count(1));
        });
        edge("Terms", "STREETS are numbered from 0 on", p -> {
            SweptDownhill x = town("9876", "01;12;23;02;03;13;01;01;01;01;01;23");
            p.row("0 1 2 0 0 1", 6, street -> x.street(street, 0));
            p.row("1 2 3 2 3 3", 6, street -> x.street(street, 1));
            p.is(2, x.street(11, 0));
            p.is(3, x.street(11, 1));
        });
        edge("Terms", "between STREETS there is ;", p -> {
            p.is(2, town("950", "01;12").count(1));
            p.is(2, town("950", "01:12").fault(1));
            p.is(2, town("950", "01<12").fault(1));
            p.is(2, town("950", "0112").fault(1));
            p.is(3, town("950", "01;;12").fault(1));
            p.is(0, town("950", ";01").fault(1));
            p.is(1, town("950", "0;1").fault(1));
        });
        edge("Terms", "a STREET has the figures of DOORS that are there", p -> {
            p.is(NONE, town("98765432", "07").fault(1));
            p.is(1, town("98765432", "08").fault(1));
            p.is(NONE, town("5555555" + "9", "70").fault(1));
            p.is(0, town("55555559", "80").fault(1));
            p.is(NONE, town("95", "01").fault(1));
            p.is(1, town("95", "02").fault(1));
            p.is(0, town("95", "20").fault(1));
            p.is(0, town("95", "/1").fault(1));
            p.is(1, town("95", "0/").fault(1));
        });
        edge("Terms", "the second DOOR of a STREET is truly lower", p -> {
            p.is(NONE, town("54", "01").fault(1));
            p.is(1, town("55", "01").fault(1));
            p.is(1, town("56", "01").fault(1));
            p.is(1, town("56", "00").fault(1));
            p.is(NONE, town("56", "10").fault(1));
            p.is(NONE, town("10", "01").fault(1));
            p.is(NONE, town("98", "01").fault(1));
        });
    }

    private void faults() {
        edge("Terms", "the FAULT is the first byte with which a text cannot go on", p -> {
            p.is(0, town("x9x", "").fault(0));
            p.is(2, town("95x5x", "").fault(0));
            p.is(7, town("9876543x", "").fault(0));
            p.is(0, town("95", "x1;x").fault(1));
            p.is(3, town("95", "01;x1;x").fault(1));
            p.is(5, town("95", "01;01xx").fault(1));
            p.is(4, town("95", "01;10;10").fault(1));
        });
        edge("Terms", "an empty text is well", p -> {
            p.row("-1 -1", 2, new SweptDownhill()::fault);
            p.is(NONE, town("95", "").fault(1));
            SweptDownhill x = town("9x", "0");
            x.wipe(0);
            x.wipe(1);
            p.row("-1 -1", 2, x::fault);
        });
        edge("Terms", "the FAULT of a text that is not ended is its end", p -> {
            p.is(1, town("95", "0").fault(1));
            p.is(NONE, town("95", "01").fault(1));
            p.is(3, town("95", "01;").fault(1));
            p.is(4, town("95", "01;0").fault(1));
            p.is(NONE, town("95", "01;01").fault(1));
            p.is(33, town("95", TWELVE.substring(0, 33)).fault(1));
            p.is(34, town("95", TWELVE.substring(0, 34)).fault(1));
        });
        edge("Terms", "the FAULT of a STREET that is not downhill is its second DOOR", p -> {
            p.is(1, town("95", "10").fault(1));
            p.is(4, town("95", "01;10").fault(1));
            p.is(1, town("95", "1").fault(1));
            p.is(34, town("95", TWELVE.substring(0, 33) + "11").fault(1));
        });
        edge("Terms", "the FAULT of a thirteenth STREET is its first byte", p -> {
            p.is(NONE, town("95", TWELVE).fault(1));
            p.is(36, town("95", TWELVE + ";0").fault(1));
            p.is(36, town("95", TWELVE + ";01").fault(1));
            p.is(36, town("95", TWELVE + ";01;0").fault(1));
            p.is(36, town("95", TWELVE + ";").fault(1));
            p.is(35, town("95", TWELVE + "0").fault(1));
        });
    }

    private void likeEmpty() {
        edge("Terms", "DOORS with a FAULT are as if the text was empty", p -> {
            SweptDownhill x = town("950", "01");
            heap(x, 0, 0, 5);
            p.is(5, x.fine(NONE));
            x.type(0, 'x');
            p.is(0, x.count(0));
            p.is(BAD, x.height(0));
            p.is(BAD, x.fine(0));
            p.is(0, x.fine(NONE));
            p.is(NONE, x.best());
            p.is(4, x.count(2));
        });
        edge("Terms", "STREETS with a FAULT are as if the text was empty", p -> {
            SweptDownhill x = town("950", "01;12");
            heap(x, 0, 0, 5);
            x.sweep(0, 0);
            p.heaps("0 5 0", x, 0);
            p.is(NONE, x.judged());
            x.type(1, ';');
            p.is(0, x.count(1));
            p.is(BAD, x.street(0, 0));
            p.heaps("5 0 0", x, 0);
            p.is(0, x.judged());
            p.is(0, x.nets(0, 1));
            p.is(0, x.cut(0, 1, 0));
            p.is(0, x.rests());
            p.is(6, x.count(3));
        });
        edge("Terms", "with a FAULT of DOORS no byte of STREETS is a DOOR", p -> {
            SweptDownhill x = town("95", "01;01");
            p.is(NONE, x.fault(1));
            x.type(0, 'x');
            p.is(0, x.fault(1));
            p.is(0, x.count(1));
            p.is(NONE, town("x", "").fault(1));
            p.is(0, town("x", ";").fault(1));
            p.is(0, town("", "0").fault(1));
        });
    }

    private void promises() {
        edge("3 wipe", "a text is empty, and the other one stays", p -> {
            SweptDownhill x = town("95", "01");
            x.wipe(1);
            p.row("2 0 2 0", 4, x::count);
            SweptDownhill y = town("95", "01");
            y.wipe(0);
            p.row("0 0 0 2", 4, y::count);
            p.is(1, y.type(0, '3'));
            p.row("3 -2", 2, y::height);
        });
        edge("3 wipe", "how many bytes it had: none, all, and those of a FAULT", p -> {
            SweptDownhill x = town("98765432", TWELVE + ";01;0");
            p.is(8, x.wipe(0));
            p.is(40, x.wipe(1));
            p.is(0, x.wipe(0));
            p.is(0, x.wipe(1));
        });
        edge("3 wipe", "BAD: a text that is neither 0 nor 1", p -> {
            SweptDownhill x = town("95", "01");
            p.refused(x, BAD, () -> x.wipe(-1));
            p.refused(x, BAD, () -> x.wipe(2));
        });
        edge("3 wipe", "behind it the text can be another one, and nothing is left of the first", p -> {
            SweptDownhill x = town("90", "01");
            x.fall(0, 0, ASH, 4);
            x.rain(0, 1);
            p.heaps("0 4", x, 0);
            x.wipe(1);
            p.heaps("4 0", x, 0);
            x.wipe(0);
            p.heaps("", x, 0);
            type(x, 0, "0930");
            type(x, 1, "12");
            p.heaps("4 0 0 0", x, 0);
            p.row("0 4 0 0", 4, door -> x.nets(door, 1));
        });
        edge("4 fault", "NONE, for a text that is well, and for a FAULT at 0 not", p -> {
            SweptDownhill x = town("98765432", "01;12");
            p.row("-1 -1", 2, x::fault);
            SweptDownhill y = town("x", "x");
            p.row("0 0", 2, y::fault);
        });
        edge("4 fault", "BAD: a text that is neither 0 nor 1", p -> {
            SweptDownhill x = town("95", "01");
            p.is(BAD, x.fault(-1));
            p.is(BAD, x.fault(2));
        });
        edge("5 height", "BAD: a DOOR that is not there", p -> {
            SweptDownhill x = town("95", "");
            p.is(BAD, x.height(-1));
            p.is(BAD, x.height(2));
            p.is(5, x.height(1));
            p.is(BAD, new SweptDownhill().height(0));
            p.is(BAD, town("98765432", "").height(8));
            p.is(2, town("98765432", "").height(7));
        });
        edge("6 street", "BAD: a STREET that is not there", p -> {
            SweptDownhill x = town("950", "01;12");
            p.is(BAD, x.street(-1, 0));
            p.is(BAD, x.street(2, 0));
            p.is(1, x.street(1, 0));
            p.is(BAD, town("95", TWELVE).street(12, 1));
            p.is(1, town("95", TWELVE).street(11, 1));
        });
        edge("6 street", "the upper DOOR (0), the lower one (1), another is BAD", p -> {
            SweptDownhill x = town("59", "10");
            p.is(1, x.street(0, 0));
            p.is(0, x.street(0, 1));
            p.is(BAD, x.street(0, -1));
            p.is(BAD, x.street(0, 2));
        });
    }
}
