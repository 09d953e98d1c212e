/** LEAST, and promise 17. */
final class EdgesOfLeast extends Edges {
    EdgesOfLeast() {
        sizes();
        place();
        lawful();
        likes();
        numbers();
    }

    /** How much, and the row of STREETS. */
    private static void least(Probe p, String want, SweptDownhill x, int k) {
        p.row(want, 4, i -> x.least(k, i - 1));
    }

    private void sizes() {
        edge("17 least", "k is 0 at least: then no SWEEP more", p -> {
            SweptDownhill x = ladder();
            x.fall(0, 0, ASH, 4);
            x.cart(59, 1);
            least(p, "4 -1 -1 -1", x, 0);
            p.is(BAD, x.least(-1, NONE));
        });
        edge("17 least", "k is 3 at most", p -> {
            SweptDownhill x = town("97531", "01;12;23;34");
            x.fall(0, 0, ASH, 4);
            x.cart(59, 4);
            least(p, "4 -1 -1 -1", x, 3);
            x.cart(59, 3);
            least(p, "0 0 1 2", x, 3);
            p.is(BAD, x.least(4, NONE));
        });
        edge("======== 2", "k SWEEPS more at the most, not more than k", p -> {
            SweptDownhill x = ladder();
            x.fall(0, 0, ASH, 4);
            x.cart(59, 3);
            least(p, "4 -1 -1 -1", x, 1);
            least(p, "4 -1 -1 -1", x, 2);
            least(p, "0 0 1 2", x, 3);
            x.cart(59, 2);
            least(p, "4 -1 -1 -1", x, 1);
            least(p, "0 0 1 -1", x, 2);
            x.cart(59, 1);
            least(p, "0 0 -1 -1", x, 1);
        });
        edge("======== 2", "fewer than k SWEEPS, where more are of no use", p -> {
            SweptDownhill x = ladder();
            x.fall(0, 0, ASH, 4);
            least(p, "4 -1 -1 -1", x, 3);
            x.cart(59, 1);
            least(p, "0 0 -1 -1", x, 3);
        });
        edge("======== 2", "k SWEEPS more, also when 24 are told", p -> {
            SweptDownhill x = ladder();
            x.fall(59, 0, ASH, 4);
            x.cart(59, 3);
            for (int i = 0; i < 24; i++) {
                x.sweep(0, 0);
            }
            least(p, "0 0 1 2", x, 3);
            p.is(24, x.count(5));
        });
    }

    private void place() {
        edge("======== 2", "behind all others in NINE", p -> {
            SweptDownhill x = ladder();
            x.fall(0, 0, ASH, 4);
            x.sweep(59, 1);
            x.cart(59, 2);
            least(p, "4 -1 -1 -1", x, 1);
            least(p, "0 0 1 -1", x, 2);
            x.sweep(59, 0);
            least(p, "0 1 -1 -1", x, 1);
        });
        edge("======== 2", "in NINE: an earlier CART does not take what is swept then", p -> {
            SweptDownhill x = ladder();
            x.set(3, 0, 9);
            x.fall(0, 0, ASH, 4);
            x.cart(8, 1);
            x.cart(10, 1);
            least(p, "4 -1 -1 -1", x, 3);
            x.cart(9, 2);
            least(p, "0 0 1 -1", x, 3);
        });
        edge("======== 2", "in NINE: what falls and rains in NINE is there", p -> {
            SweptDownhill x = ladder();
            x.set(3, 0, 9);
            x.fall(9, 0, ASH, 4);
            x.cart(9, 3);
            x.sweep(10, 11);
            least(p, "0 0 1 2", x, 3);
            x.rain(9, 1);
            least(p, "0 -1 -1 -1", x, 3);
        });
        edge("======== 2", "ahead of CARTS", p -> {
            SweptDownhill x = town("95", "01");
            x.fall(0, 0, ASH, 4);
            x.fall(0, 1, ASH, 2);
            x.cart(59, 1);
            least(p, "0 0 -1 -1", x, 1);
            x.undo(2);
            x.cart(59, 0);
            least(p, "2 -1 -1 -1", x, 3);
        });
    }

    private void lawful() {
        edge("======== 2", "such as the LAW lets be: just its HOLD, not more", p -> {
            SweptDownhill x = town("95", "01");
            x.fall(0, 0, ASH, 3);
            x.fall(0, 1, ASH, 2);
            x.cart(59, 1);
            x.set(1, 1, 5);
            least(p, "0 0 -1 -1", x, 3);
            x.set(1, 1, 4);
            least(p, "3 -1 -1 -1", x, 3);
        });
        edge("======== 2", "one by one: one of them makes room for the next", p -> {
            SweptDownhill x = ladder();
            x.fall(0, 0, ASH, 3);
            x.fall(0, 1, ASH, 2);
            x.set(1, 1, 4);
            x.cart(59, 1);
            least(p, "3 -1 -1 -1", x, 1);
            least(p, "2 1 0 -1", x, 2);
        });
        edge("======== 2", "by what lies there then: what came before is still there, also at the DOOR of a CART", p -> {
            SweptDownhill x = town("950", "01;12");
            x.fall(0, 0, ASH, 3);
            x.fall(0, 1, ASH, 3);
            x.cart(59, 2);
            x.set(1, 2, 6);
            least(p, "0 0 1 -1", x, 2);
            x.set(1, 2, 5);
            least(p, "3 1 -1 -1", x, 3);
        });
        edge("======== 2", "by what lies there: barrows of a RATE of 0 count", p -> {
            SweptDownhill x = town("95", "01");
            x.fall(0, 0, ASH, 3);
            x.fall(0, 0, BONES, 1);
            x.set(0, ASH, 0);
            x.cart(59, 1);
            x.set(1, 1, 4);
            least(p, "0 0 -1 -1", x, 1);
            x.set(1, 1, 3);
            least(p, "3 -1 -1 -1", x, 1);
        });
    }

    private void likes() {
        edge("======== 2", "by which FINES of all DOORS are least together", p -> {
            SweptDownhill x = town("9850", "02;12;03;13");
            x.fall(0, 0, ASH, 9);
            x.fall(0, 1, WASHING, 2);
            x.cart(59, 3);
            least(p, "9 3 -1 -1", x, 1);
            least(p, "0 2 3 -1", x, 2);
        });
        edge("======== 2", "of like ones the fewest SWEEPS, also if their row is not the least", p -> {
            SweptDownhill x = town("950", "01;12;02");
            x.fall(0, 0, ASH, 4);
            x.cart(59, 2);
            least(p, "0 2 -1 -1", x, 3);
        });
        edge("======== 2", "of like ones the least row: by its first STREET", p -> {
            SweptDownhill x = town("950", "12;02;02");
            x.fall(0, 0, ASH, 4);
            x.cart(59, 2);
            least(p, "0 1 -1 -1", x, 3);
            x.fall(0, 1, ASH, 1);
            least(p, "0 0 1 -1", x, 3);
        });
        edge("======== 2", "of like ones the least row: of a like first STREET by the next ones", p -> {
            SweptDownhill x = town("950", "01;12;12");
            x.fall(0, 0, ASH, 4);
            x.cart(59, 2);
            least(p, "0 0 1 -1", x, 3);
            SweptDownhill y = town("9750", "01;12;23;23");
            y.fall(0, 0, ASH, 4);
            y.cart(59, 3);
            least(p, "0 0 1 2", y, 3);
        });
        edge("======== 2", "of like ones the fewest SWEEPS: what weighs nothing is not swept", p -> {
            SweptDownhill x = town("95", "01");
            x.fall(0, 0, ASH, 4);
            x.cart(59, 1);
            x.set(0, ASH, 0);
            least(p, "0 -1 -1 -1", x, 3);
        });
    }

    private void numbers() {
        edge("17 least", "how much (i = NONE), the i-th STREET (0 to 2), NONE behind the row", p -> {
            SweptDownhill x = ladder();
            x.fall(0, 0, WASHING, 2);
            x.cart(59, 2);
            p.is(0, x.least(3, NONE));
            p.is(0, x.least(3, 0));
            p.is(1, x.least(3, 1));
            p.is(NONE, x.least(3, 2));
            p.is(10, x.least(0, NONE));
            p.is(NONE, x.least(0, 2));
            p.is(BAD, x.least(3, -2));
            p.is(BAD, x.least(3, 3));
        });
        edge("17 least", "without STREETS or DOORS there is no row", p -> {
            SweptDownhill x = town("95", "");
            x.fall(0, 0, ASH, 4);
            x.cart(59, 1);
            least(p, "4 -1 -1 -1", x, 3);
            least(p, "0 -1 -1 -1", new SweptDownhill(), 3);
        });
        edge("17 least", "a STREET of the row may be the last one of twelve", p -> {
            SweptDownhill x = town("987", TWELVE.substring(0, 33) + "02");
            x.fall(0, 0, ASH, 4);
            x.cart(59, 2);
            least(p, "0 11 -1 -1", x, 3);
        });
    }
}
