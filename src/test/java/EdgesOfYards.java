/** ODDS, WAIT, WHO, ORIGIN and BEST, and promises 22 to 26. */
final class EdgesOfYards extends Edges {
    EdgesOfYards() {
        odds();
        waits();
        who();
        whoIsRefused();
        origin();
        best();
    }

    /** In NINE, which is 4, three barrows fall at DOOR 0, and a CART comes to where RAIN would bring them. */
    private static SweptDownhill heapInNine() {
        SweptDownhill x = town("95", "01");
        x.set(3, 0, 4);
        x.fall(4, 0, ASH, 3);
        x.cart(4, 1);
        return x;
    }

    private static void odds(Probe p, String want, SweptDownhill x, int sixteenths) {
        p.row(want, 2, what -> x.odds(sixteenths, what));
    }

    private void odds() {
        edge("======== 3", "ODDS are 0 sixteenths at least: then it does not rain", p -> {
            odds(p, "3 1", heapInNine(), 0);
            p.is(LEAST_LONG + 2, heapInNine().odds(-1, 0));
            p.is(LEAST_LONG + 2, heapInNine().odds(-1, 1));
        });
        edge("======== 3", "ODDS are 16 sixteenths at most: then it rains", p -> {
            odds(p, "0 1", heapInNine(), 16);
            p.is(LEAST_LONG + 2, heapInNine().odds(17, 0));
            p.is(LEAST_LONG + 2, heapInNine().odds(17, 1));
        });
        edge("======== 3", "it rains by these, whatever is told of that minute", p -> {
            SweptDownhill x = heapInNine();
            x.rain(4, 1);
            odds(p, "3 1", x, 0);
            odds(p, "3 2", x, 8);
            odds(p, "0 1", x, 16);
            p.is(1, x.rain(4, 0));
            odds(p, "0 1", x, 16);
        });
        edge("======== 3", "RAIN in NINE: that of other minutes is as told", p -> {
            SweptDownhill x = ladder();
            x.set(3, 0, 4);
            x.fall(3, 0, ASH, 3);
            x.fall(4, 0, ASH, 5);
            x.cart(4, 3);
            x.rain(3, 1);
            odds(p, "5 1", x, 0);
            odds(p, "0 1", x, 16);
            x.rain(3, 0);
            odds(p, "8 1", x, 0);
        });
        edge("======== 3", "the mean of FINES of all DOORS together, by RATES", p -> {
            SweptDownhill x = town("950", "01");
            x.fall(59, 0, WASHING, 2);
            x.fall(59, 1, ASH, 4);
            x.fall(59, 2, BONES, 1);
            x.cart(59, 1);
            odds(p, "13 1", x, 0);
            odds(p, "3 1", x, 16);
            odds(p, "39 8", x, 13);
        });
        edge("Terms", "FRACTIONS are told in lowest terms", p -> {
            odds(p, "45 16", heapInNine(), 1);
            odds(p, "21 8", heapInNine(), 2);
            odds(p, "39 16", heapInNine(), 3);
            odds(p, "9 4", heapInNine(), 4);
            odds(p, "3 2", heapInNine(), 8);
            odds(p, "3 4", heapInNine(), 12);
            odds(p, "3 16", heapInNine(), 15);
            SweptDownhill x = heapInNine();
            heap(x, 0, 0, 13);
            odds(p, "1 1", x, 15);
            odds(p, "8 1", x, 8);
        });
        edge("Terms", "a FRACTION of 0 is 0 by 1", p -> {
            odds(p, "0 1", heapInNine(), 16);
            odds(p, "0 1", new SweptDownhill(), 5);
            odds(p, "0 1", town("95", "01"), 8);
        });
        edge("22 odds", "above (0), below (1), another what is BAD", p -> {
            SweptDownhill x = heapInNine();
            p.is(45, x.odds(1, 0));
            p.is(16, x.odds(1, 1));
            p.is(LEAST_LONG + 2, x.odds(1, -1));
            p.is(LEAST_LONG + 2, x.odds(1, 2));
        });
    }

    private void waits() {
        edge("======== 3", "WAIT is 1: the mean is less without the last SWEEP", p -> {
            SweptDownhill x = heapInNine();
            x.undo(2);
            x.cart(4, 0);
            x.sweep(4, 0);
            p.is(1, x.waits(0));
            p.is(1, x.waits(15));
        });
        edge("======== 3", "WAIT is 0: the mean is the same without it", p -> {
            SweptDownhill x = heapInNine();
            x.undo(2);
            x.sweep(4, 0);
            p.row("0 0 0", 3, i -> x.waits(8 * i));
            x.cart(4, 0);
            p.is(0, x.waits(16));
        });
        edge("======== 3", "WAIT is 0: the mean is more without it", p -> {
            SweptDownhill x = heapInNine();
            x.sweep(4, 0);
            p.is(0, x.waits(0));
            p.is(0, x.waits(15));
        });
        edge("======== 3", "WAIT: the last SWEEP that is told, not the last by minutes", p -> {
            SweptDownhill x = ladder();
            x.set(3, 0, 4);
            x.fall(0, 0, ASH, 3);
            x.cart(4, 0);
            x.sweep(4, 0);
            p.is(1, x.waits(0));
            x.sweep(2, 1);
            p.is(0, x.waits(0));
            x.sweep(1, 0);
            p.is(0, x.waits(0));
            x.undo(1);
            x.undo(1);
            x.cart(4, 1);
            p.is(0, x.waits(0));
        });
        edge("======== 3", "WAIT: a last SWEEP behind NINE is the last one, too", p -> {
            SweptDownhill x = heapInNine();
            x.undo(2);
            x.cart(4, 0);
            x.sweep(4, 0);
            p.is(1, x.waits(0));
            x.sweep(5, 0);
            p.is(0, x.waits(0));
        });
        edge("23 waits", "sixteenths are 0 to 16", p -> {
            SweptDownhill x = heapInNine();
            x.sweep(4, 0);
            p.is(0, x.waits(0));
            p.is(0, x.waits(16));
            p.is(BAD, x.waits(-1));
            p.is(BAD, x.waits(17));
        });
        edge("23 waits", "NOT: there is no SWEEP, and BAD comes ahead of it", p -> {
            SweptDownhill x = heapInNine();
            p.refused(x, NOT, () -> x.waits(0));
            p.refused(x, NOT, () -> x.waits(16));
            p.is(BAD, x.waits(17));
            p.is(BAD, x.waits(-1));
            x.sweep(59, 11);
            p.is(0, x.waits(0));
        });
    }

    private static void who(Probe p, String want, SweptDownhill x, int minute, int kind) {
        p.row(want, x.count(0), door -> x.who(minute, kind, door));
    }

    private void who() {
        edge("======== 4", "WHO: had one barrow more fallen there in a minute, with what comes from that minute on", p -> {
            SweptDownhill x = ladder();
            x.sweep(3, 0);
            x.rain(5, 1);
            x.fall(5, 0, ASH, 1);
            who(p, "0 0 0 15", x, 0, ASH);
            who(p, "0 0 0 15", x, 5, ASH);
            who(p, "1 2 4 8", x, 6, ASH);
            x.rain(5, 0);
            who(p, "0 3 4 8", x, 3, ASH);
            who(p, "1 2 4 8", x, 4, ASH);
        });
        edge("======== 4", "WHO: what a CART takes does not lie there", p -> {
            SweptDownhill x = ladder();
            x.cart(9, 1);
            who(p, "1 0 4 8", x, 9, ASH);
            who(p, "1 2 4 8", x, 10, ASH);
        });
        edge("======== 4", "WHO: just one barrow more, not more of them", p -> {
            SweptDownhill x = ladder();
            x.fall(0, 0, BONES, 5);
            x.sweep(1, 0);
            x.set(1, 1, 5);
            who(p, "0 0 4 8", x, 0, BONES);
            who(p, "1 2 4 8", x, 2, BONES);
        });
        edge("======== 4", "WHO: one barrow more of it, whatever other KINDS do", p -> {
            SweptDownhill x = ladder();
            x.fall(0, 0, BONES, 5);
            x.sweep(1, 0);
            x.set(1, 1, 5);
            who(p, "1 2 4 8", x, 0, ASH);
        });
        edge("======== 4", "WHO: a SWEEP that this makes one against the LAW is one", p -> {
            SweptDownhill x = ladder();
            x.fall(0, 0, BONES, 5);
            x.fall(0, 1, ASH, 3);
            x.sweep(1, 0);
            x.set(1, 1, 9);
            who(p, "0 3 4 8", x, 0, ASH);
            x.set(1, 1, 8);
            who(p, "1 2 4 8", x, 0, ASH);
            p.is(NONE, x.judged());
        });
        edge("======== 4", "WHO: all else as told, and it stays so", p -> {
            SweptDownhill x = ladder();
            x.fall(0, 0, ASH, 5);
            x.rain(3, 1);
            long before = x.digest();
            who(p, "0 0 0 15", x, 0, ASH);
            p.is(before, x.digest());
            p.is(1, x.count(4));
            p.heaps("0 0 0 5", x, 59);
        });
        edge("======== 4", "WHO: behind all other FALLS, also when 20 are told", p -> {
            SweptDownhill x = ladder();
            heap(x, 0, 0, 180);
            x.rain(0, 1);
            who(p, "0 0 0 15", x, 0, ASH);
            p.is(20, x.count(4));
        });
        edge("======== 4", "WHO: as bits, up to that of DOOR 7", p -> {
            SweptDownhill x = town("98765432", "01;12;23;34;45;56;67");
            who(p, "1 2 4 8 16 32 64 128", x, 0, ASH);
            x.rain(0, 1);
            who(p, "0 0 0 0 0 0 0 255", x, 0, ASH);
        });
    }

    private void whoIsRefused() {
        edge("24 who", "BAD: a minute that is not 0 to NINE", p -> {
            SweptDownhill x = ladder();
            x.set(3, 0, 7);
            p.is(1, x.who(0, ASH, 0));
            p.is(1, x.who(7, ASH, 0));
            p.is(BAD, x.who(-1, ASH, 0));
            p.is(BAD, x.who(8, ASH, 0));
            x.set(3, 0, 59);
            p.is(1, x.who(59, ASH, 0));
            p.is(BAD, x.who(60, ASH, 0));
        });
        edge("24 who", "BAD: a DOOR that is not there", p -> {
            SweptDownhill x = ladder();
            p.is(8, x.who(0, ASH, 3));
            p.is(BAD, x.who(0, ASH, 4));
            p.is(BAD, x.who(0, ASH, -1));
        });
    }

    private void origin() {
        edge("======== 4", "ORIGIN: DOORS at which some of it fell, not those by which it came", p -> {
            SweptDownhill x = ladder();
            x.fall(0, 0, ASH, 1);
            x.rain(0, 1);
            x.fall(1, 2, ASH, 1);
            x.sweep(1, 2);
            p.row("0 0 0 5", 4, door -> x.origin(door, ASH));
        });
        edge("======== 4", "ORIGIN: the DOOR itself, too", p -> {
            SweptDownhill x = ladder();
            x.fall(0, 1, ASH, 1);
            p.row("0 2 0 0", 4, door -> x.origin(door, ASH));
            x.fall(0, 0, ASH, 1);
            x.sweep(0, 0);
            x.fall(1, 1, ASH, 1);
            p.row("0 3 0 0", 4, door -> x.origin(door, ASH));
        });
        edge("======== 4", "ORIGIN: of what LIES there: nothing, where nothing lies", p -> {
            SweptDownhill x = ladder();
            p.row("0 0 0 0", 4, door -> x.origin(door, ASH));
            x.fall(0, 0, ASH, 1);
            x.fall(0, 1, ASH, 1);
            x.sweep(1, 0);
            x.cart(2, 1);
            p.row("0 0 0 0", 4, door -> x.origin(door, ASH));
            x.fall(3, 1, ASH, 1);
            p.row("0 2 0 0", 4, door -> x.origin(door, ASH));
            SweptDownhill undone = ladder();
            undone.fall(0, 0, ASH, 1);
            undone.undo(0);
            p.row("0 0 0 0", 4, door -> undone.origin(door, ASH));
        });
        edge("======== 4", "ORIGIN: of a KIND alone", p -> {
            SweptDownhill x = ladder();
            x.fall(0, 0, ASH, 1);
            x.fall(0, 1, WASHING, 1);
            x.sweep(1, 0);
            p.row("1 0 0 0 2", 5, kind -> x.origin(1, kind));
        });
        edge("======== 4", "ORIGIN: behind NINE: what falls in NINE counts, what falls later does not", p -> {
            SweptDownhill x = ladder();
            x.set(3, 0, 5);
            x.fall(5, 0, ASH, 1);
            x.sweep(5, 0);
            x.fall(6, 1, ASH, 1);
            p.row("0 1 0 0", 4, door -> x.origin(door, ASH));
        });
        edge("25 origin", "as bits, up to that of DOOR 7", p -> {
            SweptDownhill x = town("23456789", "70;60;50;40;30;20;10");
            for (int door = 0; door < 8; door++) {
                x.fall(0, door, GLASS, 1);
            }
            x.rain(0, 1);
            p.is(255, x.origin(0, GLASS));
            p.is(0, x.origin(7, GLASS));
        });
        edge("25 origin", "BAD: a DOOR that is not there", p -> {
            SweptDownhill x = ladder();
            p.is(0, x.origin(3, ASH));
            p.is(BAD, x.origin(4, ASH));
            p.is(BAD, x.origin(-1, ASH));
        });
    }

    private void best() {
        edge("======== 4", "BEST: of like ones the least", p -> {
            SweptDownhill x = ladder();
            p.is(0, x.best());
            x.fall(0, 2, ASH, 2);
            x.fall(0, 1, GLASS, 1);
            p.is(1, x.best());
            x.fall(0, 3, ASH, 2);
            x.undo(0);
            x.fall(0, 3, ASH, 3);
            p.is(3, x.best());
        });
        edge("======== 4", "BEST: the least FINES, not the most barrows", p -> {
            SweptDownhill x = ladder();
            x.fall(0, 0, ASH, 9);
            x.fall(0, 2, WASHING, 2);
            p.is(2, x.best());
            x.set(0, WASHING, 4);
            p.is(0, x.best());
        });
        edge("======== 4", "BEST: a CART more in NINE, behind all that comes in NINE", p -> {
            SweptDownhill x = ladder();
            x.set(3, 0, 5);
            x.fall(5, 0, ASH, 3);
            x.sweep(5, 0);
            x.fall(6, 3, ASH, 9);
            p.is(1, x.best());
            x.fall(5, 2, ASH, 1);
            x.cart(5, 1);
            p.is(2, x.best());
        });
        edge("======== 4", "BEST: a CART more, also when 8 are told", p -> {
            SweptDownhill x = ladder();
            x.fall(0, 2, ASH, 3);
            for (int i = 0; i < 8; i++) {
                x.cart(59, 0);
            }
            p.is(2, x.best());
            p.is(8, x.count(6));
        });
        edge("26 best", "NONE: there are no DOORS", p -> {
            SweptDownhill x = new SweptDownhill();
            x.fall(0, 0, ASH, 3);
            p.is(NONE, x.best());
            x.type(0, '9');
            p.is(0, x.best());
            x.type(0, 'x');
            p.is(NONE, x.best());
        });
    }
}
