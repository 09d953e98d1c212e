/** What happens in each minute, JUDGED, LIES and FINE, and promises 14 to 16. */
final class EdgesOfMinutes extends Edges {
    EdgesOfMinutes() {
        falling();
        raining();
        sweeping();
        law();
        carting();
        judged();
        lies();
        fine();
    }

    private void falling() {
        edge("Terms", "a FALL at a DOOR that is not there does not come; at the last one it does", p -> {
            SweptDownhill x = town("95", "");
            x.fall(0, 1, ASH, 1);
            x.fall(0, 2, ASH, 2);
            p.heaps("0 1", x, 59);
            p.is(1, x.fine(NONE));
            x.type(0, '0');
            p.heaps("0 1 2", x, 59);
        });
        edge("Terms", "FALLS come ahead of RAIN and of SWEEPS in a minute", p -> {
            SweptDownhill x = ladder();
            x.rain(5, 1);
            x.sweep(7, 0);
            x.fall(5, 0, ASH, 1);
            x.fall(7, 0, ASH, 2);
            p.heaps("0 0 0 1", x, 5);
            p.heaps("0 2 0 1", x, 7);
        });
    }

    private void raining() {
        edge("Terms", "RAIN goes from the highest DOOR on: all goes down to where no STREET is", p -> {
            SweptDownhill x = town("0369", "10;21;32");
            x.fall(0, 3, ASH, 1);
            x.fall(0, 2, ASH, 2);
            x.fall(0, 1, ASH, 3);
            x.rain(0, 1);
            p.heaps("6 0 0 0", x, 0);
            SweptDownhill mixed = town("1593", "21;13;30");
            mixed.fall(0, 2, ASH, 4);
            mixed.rain(0, 1);
            p.heaps("4 0 0 0", mixed, 0);
        });
        edge("Terms", "RAIN goes from all DOORS of like height", p -> {
            SweptDownhill x = town("55510", "03;13;23;34");
            x.fall(0, 0, ASH, 1);
            x.fall(0, 1, ASH, 2);
            x.fall(0, 2, ASH, 4);
            x.rain(0, 1);
            p.heaps("0 0 0 0 7", x, 0);
        });
        edge("Terms", "all that lies there goes with RAIN: each KIND", p -> {
            SweptDownhill x = town("95", "01");
            for (int kind = 0; kind < 5; kind++) {
                x.fall(kind, 0, kind, kind + 1);
            }
            x.rain(9, 1);
            p.row("0 0 0 0 0", 5, kind -> x.lies(0, 9, kind));
            p.row("1 2 3 4 5", 5, kind -> x.lies(1, 9, kind));
        });
        edge("Terms", "RAIN goes down the first STREET of a DOOR, the one of the least number", p -> {
            SweptDownhill x = town("9531", "03;01;02");
            x.fall(0, 0, ASH, 1);
            x.rain(0, 1);
            p.heaps("0 0 0 1", x, 0);
            SweptDownhill y = town("9531", "12;02;01;03");
            y.fall(0, 0, ASH, 1);
            y.rain(0, 1);
            p.heaps("0 0 1 0", y, 0);
        });
        edge("Terms", "in RAIN it stays, if there is no STREET", p -> {
            SweptDownhill x = town("95", "");
            x.fall(0, 0, ASH, 1);
            x.fall(0, 1, ASH, 2);
            x.rain(0, 1);
            p.heaps("1 2", x, 59);
            SweptDownhill y = town("953", "12");
            y.fall(0, 0, ASH, 1);
            y.fall(0, 1, ASH, 2);
            y.rain(0, 1);
            p.heaps("1 0 2", y, 59);
        });
        edge("Terms", "a HOLD is for SWEEPS: RAIN heeds none", p -> {
            SweptDownhill x = town("95", "01");
            x.fall(0, 0, ASH, 1);
            x.set(1, 1, 0);
            x.rain(0, 1);
            p.heaps("0 1", x, 0);
            p.is(NONE, x.judged());
        });
        edge("Terms", "RAIN comes ahead of SWEEPS in a minute", p -> {
            SweptDownhill x = town("950", "01;12");
            x.fall(4, 0, ASH, 1);
            x.sweep(5, 0);
            x.rain(5, 1);
            p.heaps("0 0 1", x, 5);
            SweptDownhill y = town("952", "02;01");
            y.fall(4, 0, ASH, 1);
            y.sweep(5, 1);
            y.rain(5, 1);
            p.heaps("0 0 1", y, 5);
        });
    }

    private void sweeping() {
        edge("Terms", "SWEEPS of a minute come in the order told", p -> {
            SweptDownhill x = ladder();
            x.fall(0, 0, ASH, 1);
            x.sweep(0, 1);
            x.sweep(0, 0);
            p.heaps("0 1 0 0", x, 0);
            x.sweep(0, 1);
            p.heaps("0 0 1 0", x, 0);
        });
        edge("Terms", "SWEEPS come by minutes, whatever was told first", p -> {
            SweptDownhill x = ladder();
            x.fall(0, 0, ASH, 1);
            x.sweep(2, 1);
            x.sweep(1, 0);
            p.heaps("0 0 1 0", x, 2);
        });
        edge("Terms", "all that lies at the upper DOOR goes to the lower one: each KIND", p -> {
            SweptDownhill x = town("95", "01");
            for (int kind = 0; kind < 5; kind++) {
                x.fall(0, 0, kind, kind + 1);
                x.fall(0, 1, kind, 1);
            }
            x.sweep(1, 0);
            p.row("0 0 0 0 0", 5, kind -> x.lies(0, 1, kind));
            p.row("2 3 4 5 6", 5, kind -> x.lies(1, 1, kind));
        });
    }

    private void law() {
        edge("Terms", "against the LAW is what holds more than its HOLD then, not what holds just that", p -> {
            SweptDownhill x = town("95", "01");
            x.fall(0, 0, ASH, 3);
            x.fall(0, 1, WASHING, 2);
            x.sweep(0, 0);
            x.set(1, 1, 5);
            p.is(NONE, x.judged());
            p.heaps("0 5", x, 0);
            x.set(1, 1, 4);
            p.is(0, x.judged());
            p.heaps("3 2", x, 0);
        });
        edge("Terms", "the HOLD is that of the lower DOOR, not of the upper one", p -> {
            SweptDownhill x = town("95", "01");
            x.fall(0, 0, ASH, 3);
            x.sweep(0, 0);
            x.set(1, 0, 0);
            p.is(NONE, x.judged());
            p.heaps("0 3", x, 0);
        });
        edge("Terms", "also if nothing lies at the upper DOOR, and the lower one holds more already", p -> {
            SweptDownhill x = town("95", "01");
            x.fall(0, 1, ASH, 5);
            x.sweep(0, 0);
            x.set(1, 1, 5);
            p.is(NONE, x.judged());
            x.set(1, 1, 4);
            p.is(0, x.judged());
            p.heaps("0 5", x, 0);
        });
        edge("Terms", "a SWEEP down a STREET that is not there is against the LAW; down the last one it is not", p -> {
            SweptDownhill x = ladder();
            x.sweep(0, 2);
            p.is(NONE, x.judged());
            x.sweep(0, 3);
            p.is(1, x.judged());
            SweptDownhill none = new SweptDownhill();
            none.sweep(0, 0);
            p.is(0, none.judged());
        });
        edge("Terms", "a SWEEP against the LAW is not done, and the next ones are looked at", p -> {
            SweptDownhill x = ladder();
            x.fall(0, 0, ASH, 6);
            x.fall(0, 2, ASH, 2);
            x.set(1, 1, 5);
            x.sweep(0, 0);
            x.sweep(0, 9);
            x.sweep(0, 2);
            p.heaps("6 0 0 2", x, 0);
            p.is(0, x.judged());
        });
        edge("Terms", "what lies there then: an earlier SWEEP makes room", p -> {
            SweptDownhill x = ladder();
            x.fall(0, 0, ASH, 3);
            x.fall(0, 1, ASH, 3);
            x.set(1, 1, 5);
            x.sweep(0, 1);
            x.sweep(0, 0);
            p.is(NONE, x.judged());
            p.heaps("0 3 3 0", x, 0);
        });
    }

    private void carting() {
        edge("Terms", "CARTS come behind SWEEPS in a minute", p -> {
            SweptDownhill x = town("95", "01");
            x.cart(3, 1);
            x.fall(3, 0, ASH, 2);
            x.sweep(3, 0);
            p.heaps("0 0", x, 3);
            SweptDownhill y = town("95", "01");
            y.fall(3, 0, ASH, 2);
            y.cart(3, 0);
            y.sweep(3, 0);
            p.heaps("0 2", y, 3);
        });
        edge("Terms", "nothing is left at the DOOR of a CART: no KIND, and the others stay", p -> {
            SweptDownhill x = town("950", "");
            for (int kind = 0; kind < 5; kind++) {
                x.fall(0, 1, kind, 9);
            }
            x.fall(0, 0, ASH, 1);
            x.fall(0, 2, ASH, 2);
            x.cart(0, 1);
            p.heaps("1 0 2", x, 0);
            p.row("0 0 0 0 0", 5, kind -> x.lies(1, 0, kind));
        });
        edge("Terms", "a CART takes what is there in its minute, not what falls later", p -> {
            SweptDownhill x = town("9", "");
            x.fall(2, 0, ASH, 1);
            x.fall(3, 0, ASH, 2);
            x.fall(4, 0, ASH, 4);
            x.cart(3, 0);
            p.row("0 0 1 0 4", 5, minute -> x.lies(0, minute, NONE));
        });
        edge("Terms", "a CART at a DOOR that is not there takes nothing", p -> {
            SweptDownhill x = town("95", "");
            x.fall(0, 0, ASH, 1);
            x.fall(0, 1, ASH, 2);
            x.cart(0, 2);
            x.cart(0, 7);
            p.heaps("1 2", x, 0);
            SweptDownhill y = town("950", "");
            y.fall(0, 2, ASH, 2);
            y.cart(0, 2);
            p.heaps("0 0 0", y, 0);
        });
    }

    private void judged() {
        edge("16 judged", "the first SWEEP against the LAW is so by minutes", p -> {
            SweptDownhill x = ladder();
            x.sweep(9, 11);
            x.sweep(8, 11);
            x.sweep(10, 11);
            p.is(1, x.judged());
        });
        edge("16 judged", "of like minutes the first as told", p -> {
            SweptDownhill x = ladder();
            x.sweep(8, 0);
            x.sweep(8, 11);
            x.sweep(8, 10);
            p.is(1, x.judged());
        });
        edge("16 judged", "NONE: there is no SWEEP, or none against the LAW", p -> {
            SweptDownhill x = ladder();
            p.is(NONE, x.judged());
            x.sweep(0, 0);
            p.is(NONE, x.judged());
        });
        edge("16 judged", "SWEEPS behind NINE are not looked at, those in NINE are", p -> {
            SweptDownhill x = ladder();
            x.set(3, 0, 8);
            x.sweep(9, 11);
            p.is(NONE, x.judged());
            x.sweep(8, 11);
            p.is(1, x.judged());
            x.set(3, 0, 7);
            p.is(NONE, x.judged());
        });
    }

    private void lies() {
        edge("14 lies", "behind a minute: with its FALLS, RAIN, SWEEPS and CARTS, and not with those of the next", p -> {
            SweptDownhill x = ladder();
            x.fall(1, 0, ASH, 1);
            x.rain(2, 1);
            x.fall(3, 0, ASH, 2);
            x.sweep(4, 0);
            x.cart(5, 1);
            p.heaps("0 0 0 0", x, 0);
            p.heaps("1 0 0 0", x, 1);
            p.heaps("0 0 0 1", x, 2);
            p.heaps("2 0 0 1", x, 3);
            p.heaps("0 2 0 1", x, 4);
            p.heaps("0 0 0 1", x, 5);
        });
        edge("14 lies", "a minute is 0 to NINE", p -> {
            SweptDownhill x = town("9", "");
            x.fall(0, 0, ASH, 3);
            x.set(3, 0, 10);
            p.is(3, x.lies(0, 0, ASH));
            p.is(3, x.lies(0, 10, ASH));
            p.is(BAD, x.lies(0, -1, ASH));
            p.is(BAD, x.lies(0, 11, ASH));
            x.set(3, 0, 59);
            p.is(3, x.lies(0, 59, ASH));
            p.is(BAD, x.lies(0, 60, ASH));
        });
        edge("14 lies", "a KIND of NONE is all of them", p -> {
            SweptDownhill x = town("9", "");
            for (int kind = 0; kind < 5; kind++) {
                x.fall(0, 0, kind, kind + 2);
            }
            p.is(20, x.lies(0, 0, NONE));
            p.row("2 3 4 5 6 -2", 6, kind -> x.lies(0, 0, kind));
            p.is(BAD, x.lies(0, 0, -2));
        });
        edge("14 lies", "BAD: a DOOR that is not there", p -> {
            SweptDownhill x = town("95", "");
            p.is(BAD, x.lies(-1, 0, ASH));
            p.is(0, x.lies(1, 0, ASH));
            p.is(BAD, x.lies(2, 0, ASH));
        });
    }

    private void fine() {
        edge("15 fine", "what LIES behind NINE: what comes in NINE counts, what comes later does not", p -> {
            SweptDownhill x = town("9", "");
            x.set(3, 0, 6);
            x.fall(6, 0, ASH, 1);
            x.fall(7, 0, ASH, 2);
            p.is(1, x.fine(0));
            p.is(1, x.fine(NONE));
        });
        edge("15 fine", "by RATES: each KIND by its own", p -> {
            SweptDownhill x = town("95", "");
            x.fall(0, 0, GLASS, 3);
            x.fall(0, 0, LIVING, 2);
            x.fall(0, 1, WASHING, 1);
            p.is(14, x.fine(0));
            p.is(5, x.fine(1));
            x.set(0, GLASS, 0);
            p.is(8, x.fine(0));
        });
        edge("15 fine", "a DOOR of NONE is all together, also if there are no DOORS", p -> {
            SweptDownhill x = town("950", "");
            x.fall(0, 0, ASH, 1);
            x.fall(0, 1, ASH, 2);
            x.fall(0, 2, ASH, 4);
            p.is(7, x.fine(NONE));
            p.is(0, new SweptDownhill().fine(NONE));
        });
        edge("15 fine", "BAD: a DOOR that is not there", p -> {
            SweptDownhill x = town("95", "");
            x.fall(0, 1, ASH, 1);
            p.is(1, x.fine(1));
            p.is(BAD, x.fine(2));
            p.is(BAD, x.fine(-2));
            p.is(BAD, new SweptDownhill().fine(0));
        });
        edge("15 fine", "the most that can lie: 180 barrows by a RATE of 9", p -> {
            SweptDownhill x = town("9", "");
            heap(x, 0, 0, 180);
            x.set(0, ASH, 9);
            p.is(1620, x.fine(0));
            p.is(180, x.lies(0, 0, NONE));
        });
    }
}
