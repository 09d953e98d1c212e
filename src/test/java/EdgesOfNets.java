/** FROM, TO, CUT, BRIBE, DEAL and REST, and promises 18 to 21. */
final class EdgesOfNets extends Edges {
    EdgesOfNets() {
        nets();
        cuts();
        bribes();
        rests();
    }

    /** One DOOR above, two of like height, one below them, and one below all. */
    private static SweptDownhill diamond() {
        return town("95520", "01;02;13;23;34");
    }

    private void nets() {
        edge("======== 2", "FROM: not it itself", p -> {
            p.row("0 1 1 7 15 -2", 6, door -> diamond().nets(door, 0));
        });
        edge("======== 2", "TO: not it itself", p -> {
            p.row("30 24 24 16 0 -2", 6, door -> diamond().nets(door, 1));
        });
        edge("======== 2", "by STREETS, one behind the other, whatever their order", p -> {
            SweptDownhill x = town("01234567", "10;21;32;43;54;65;76");
            p.row("254 252 248 240 224 192 128 0", 8, door -> x.nets(door, 0));
            p.row("0 1 3 7 15 31 63 127", 8, door -> x.nets(door, 1));
            SweptDownhill y = town("01234567", "76;65;54;43;32;21;10");
            p.row("0 1 3 7 15 31 63 127", 8, door -> y.nets(door, 1));
        });
        edge("======== 2", "a lower DOOR to which no STREET leads is not come to", p -> {
            SweptDownhill x = town("9530", "01;23");
            p.row("2 0 8 0", 4, door -> x.nets(door, 1));
            p.row("0 1 0 4", 4, door -> x.nets(door, 0));
        });
        edge("18 nets", "BAD: a DOOR that is not there, another what than 0 and 1", p -> {
            SweptDownhill x = diamond();
            p.is(BAD, x.nets(-1, 0));
            p.is(BAD, x.nets(5, 0));
            p.is(15, x.nets(4, 0));
            p.is(BAD, x.nets(0, -1));
            p.is(BAD, x.nets(0, 2));
        });
    }

    private static void cut(Probe p, String want, SweptDownhill x, int from, int to) {
        p.row(want, 2, what -> x.cut(from, to, what));
    }

    private void cuts() {
        edge("======== 2", "CUT: the fewest STREETS, though others have less bits", p -> {
            cut(p, "1 16", diamond(), 0, 4);
            cut(p, "1 8", town("9530", "01;01;01;12;23"), 0, 2);
            cut(p, "1 4", town("950", "01;01;12"), 0, 2);
            cut(p, "3 7", town("950", "01;01;01;12"), 0, 1);
        });
        edge("======== 2", "CUT: of like ones the least bits", p -> {
            cut(p, "2 3", diamond(), 0, 3);
            cut(p, "2 6", town("95520", "34;23;13;02;01"), 0, 3);
            cut(p, "1 1", town("7531", "01;12;23"), 0, 3);
            cut(p, "1 1", town("7531", "23;12;01"), 0, 3);
        });
        edge("======== 2", "CUT: as bits, up to all twelve STREETS", p -> {
            cut(p, "12 4095", town("95", TWELVE), 0, 1);
            cut(p, "1 2048", town("950", "01;01;01;01;01;01;01;01;01;01;01;12"), 0, 2);
        });
        edge("======== 2", "CUT: where one cannot come at all, none", p -> {
            cut(p, "0 0", diamond(), 4, 0);
            cut(p, "0 0", diamond(), 1, 2);
            cut(p, "0 0", town("95", ""), 0, 1);
            cut(p, "0 0", town("95", TWELVE), 1, 0);
        });
        edge("19 cut", "BAD: also of one with itself", p -> {
            SweptDownhill x = diamond();
            p.is(BAD, x.cut(0, 0, 0));
            p.is(BAD, x.cut(4, 4, 1));
            p.is(1, x.cut(0, 1, 0));
        });
        edge("19 cut", "BAD: a DOOR that is not there, another what than 0 and 1", p -> {
            SweptDownhill x = diamond();
            p.is(BAD, x.cut(-1, 0, 0));
            p.is(BAD, x.cut(5, 0, 0));
            p.is(BAD, x.cut(0, -1, 0));
            p.is(BAD, x.cut(0, 5, 0));
            p.is(BAD, x.cut(0, 1, -1));
            p.is(BAD, x.cut(0, 1, 2));
            p.is(1, x.cut(0, 4, 0));
        });
    }

    private void bribes() {
        edge("======== 3", "BRIBE: what LIES at the upper DOOR behind NINE", p -> {
            SweptDownhill x = town("95", "01");
            x.set(3, 0, 6);
            x.fall(6, 0, BONES, 2);
            x.fall(7, 0, BONES, 9);
            x.fall(0, 1, WASHING, 9);
            p.row("6 6 0", 3, what -> x.bribe(0, what));
            x.cart(6, 0);
            p.row("0 0 0", 3, what -> x.bribe(0, what));
        });
        edge("======== 3", "BRIBE: whatever HOLD is", p -> {
            SweptDownhill x = town("95", "01");
            x.fall(0, 0, BONES, 2);
            x.set(1, 1, 0);
            p.row("6 6 0", 3, what -> x.bribe(0, what));
        });
        edge("======== 3", "a FINE hurts PRIDE times as much: below by that of the lower DOOR, above by that of the upper", p -> {
            SweptDownhill x = town("95", "01");
            x.fall(0, 0, BONES, 2);
            x.set(2, 0, 4);
            x.set(2, 1, 9);
            p.is(54, x.bribe(0, 0));
            p.is(24, x.bribe(0, 1));
        });
        edge("======== 3", "DEAL: the one less the other, if that is more than 0", p -> {
            SweptDownhill x = town("95", "01");
            x.fall(0, 0, ASH, 1);
            x.set(2, 0, 4);
            x.set(2, 1, 5);
            p.is(1, x.bribe(0, 2));
            x.set(2, 1, 9);
            p.is(5, x.bribe(0, 2));
        });
        edge("======== 3", "DEAL: else 0, also if it is less", p -> {
            SweptDownhill x = town("95", "01");
            x.fall(0, 0, ASH, 1);
            x.set(2, 0, 4);
            x.set(2, 1, 4);
            p.is(0, x.bribe(0, 2));
            x.set(2, 1, 3);
            p.is(0, x.bribe(0, 2));
        });
        edge("20 bribe", "BAD: a STREET that is not there, another what than 0 to 2", p -> {
            SweptDownhill x = diamond();
            p.is(BAD, x.bribe(-1, 0));
            p.is(BAD, x.bribe(5, 0));
            p.is(0, x.bribe(4, 0));
            p.is(BAD, x.bribe(0, -1));
            p.is(BAD, x.bribe(0, 3));
            p.is(BAD, new SweptDownhill().bribe(0, 0));
        });
    }

    private void rests() {
        edge("======== 3", "REST: STREETS with a DEAL of 0", p -> {
            SweptDownhill x = diamond();
            x.fall(0, 0, ASH, 1);
            x.fall(0, 2, ASH, 1);
            p.is(31, x.rests());
            x.set(2, 1, 2);
            p.is(30, x.rests());
            x.set(2, 2, 3);
            p.is(28, x.rests());
            x.set(2, 0, 3);
            p.is(31, x.rests());
            x.set(2, 3, 4);
            p.is(23, x.rests());
        });
        edge("21 rests", "as bits, up to all twelve STREETS, and none without STREETS", p -> {
            SweptDownhill x = town("950", "01;01;01;01;01;01;01;01;01;01;01;12");
            p.is(4095, x.rests());
            x.fall(0, 1, ASH, 1);
            x.set(2, 2, 2);
            p.is(2047, x.rests());
            p.is(0, town("95", "").rests());
            p.is(0, new SweptDownhill().rests());
        });
    }
}
