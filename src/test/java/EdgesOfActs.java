/** FALLS, SWEEPS, CARTS and RAIN as they are told, and promises 9 to 13. */
final class EdgesOfActs extends Edges {
    EdgesOfActs() {
        falls();
        sweeps();
        carts();
        rain();
        undo();
    }

    private void falls() {
        edge("Terms", "of FALLS there are 20 at most", p -> {
            SweptDownhill x = town("9", "");
            for (int many = 1; many <= 20; many++) {
                p.is(many, x.fall(0, 0, ASH, 1));
            }
            p.refused(x, FULL, () -> x.fall(0, 0, ASH, 1));
            p.is(20, x.count(4));
            p.is(20, x.fine(0));
        });
        edge("Terms", "a FALL in a minute of 0 to 59", p -> {
            SweptDownhill x = town("9", "");
            p.is(1, x.fall(0, 0, ASH, 1));
            p.is(2, x.fall(59, 0, ASH, 2));
            p.refused(x, BAD, () -> x.fall(-1, 0, ASH, 1));
            p.refused(x, BAD, () -> x.fall(60, 0, ASH, 1));
            p.is(1, x.lies(0, 0, NONE));
            p.is(3, x.lies(0, 59, NONE));
        });
        edge("Terms", "a FALL behind NINE is told, too", p -> {
            SweptDownhill x = town("9", "");
            x.set(3, 0, 5);
            p.is(1, x.fall(6, 0, ASH, 1));
            p.is(0, x.fine(0));
        });
        edge("Terms", "a FALL at a DOOR of 0 to 7, also at one that is not there", p -> {
            SweptDownhill x = town("9", "");
            p.is(1, x.fall(0, 0, ASH, 1));
            p.is(2, x.fall(0, 7, ASH, 2));
            p.refused(x, BAD, () -> x.fall(0, -1, ASH, 1));
            p.refused(x, BAD, () -> x.fall(0, 8, ASH, 1));
        });
        edge("Terms", "a FALL of 1 barrow at least", p -> {
            SweptDownhill x = town("9", "");
            p.is(1, x.fall(0, 0, ASH, 1));
            p.refused(x, BAD, () -> x.fall(0, 0, ASH, 0));
            p.refused(x, BAD, () -> x.fall(0, 0, ASH, -1));
            p.is(1, x.lies(0, 0, ASH));
        });
        edge("Terms", "a FALL of 9 barrows at most", p -> {
            SweptDownhill x = town("9", "");
            p.is(1, x.fall(0, 0, ASH, 9));
            p.refused(x, BAD, () -> x.fall(0, 0, ASH, 10));
            p.is(9, x.lies(0, 0, ASH));
        });
        edge("9 fall", "BAD comes ahead of FULL", p -> {
            SweptDownhill x = new SweptDownhill();
            heap(x, 0, 0, 180);
            p.is(20, x.count(4));
            p.is(BAD, x.fall(60, 0, ASH, 1));
            p.is(BAD, x.fall(0, 8, ASH, 1));
            p.is(BAD, x.fall(0, 0, 5, 1));
            p.is(BAD, x.fall(0, 0, ASH, 10));
            p.is(FULL, x.fall(0, 0, ASH, 9));
        });
    }

    private void sweeps() {
        edge("Terms", "of SWEEPS there are 24 at most", p -> {
            SweptDownhill x = ladder();
            for (int many = 1; many <= 24; many++) {
                p.is(many, x.sweep(0, 0));
            }
            p.refused(x, FULL, () -> x.sweep(0, 11));
            p.is(24, x.count(5));
            p.is(NONE, x.judged());
        });
        edge("Terms", "SWEEPS are numbered from 0 on", p -> {
            SweptDownhill x = ladder();
            x.sweep(9, 11);
            p.is(0, x.judged());
            for (int i = 1; i < 23; i++) {
                x.sweep(8, 0);
            }
            x.sweep(8, 11);
            p.is(23, x.judged());
        });
        edge("Terms", "a SWEEP in a minute of 0 to 59", p -> {
            SweptDownhill x = ladder();
            x.fall(0, 0, ASH, 1);
            p.is(1, x.sweep(0, 0));
            p.is(2, x.sweep(59, 1));
            p.refused(x, BAD, () -> x.sweep(-1, 0));
            p.refused(x, BAD, () -> x.sweep(60, 0));
            p.heaps("0 1 0 0", x, 0);
            p.heaps("0 0 1 0", x, 59);
        });
        edge("Terms", "a SWEEP down a STREET of 0 to 11, also down one that is not there", p -> {
            SweptDownhill x = town("95", "01");
            p.is(1, x.sweep(0, 0));
            p.is(2, x.sweep(0, 11));
            p.refused(x, BAD, () -> x.sweep(0, -1));
            p.refused(x, BAD, () -> x.sweep(0, 12));
        });
        edge("10 sweep", "BAD comes ahead of FULL", p -> {
            SweptDownhill x = new SweptDownhill();
            for (int i = 0; i < 24; i++) {
                x.sweep(0, 0);
            }
            p.is(BAD, x.sweep(60, 0));
            p.is(BAD, x.sweep(0, 12));
            p.is(FULL, x.sweep(0, 0));
        });
    }

    private void carts() {
        edge("Terms", "of CARTS there are 8 at most", p -> {
            SweptDownhill x = ladder();
            x.fall(0, 1, ASH, 1);
            for (int many = 1; many <= 8; many++) {
                p.is(many, x.cart(0, 0));
            }
            p.refused(x, FULL, () -> x.cart(0, 1));
            p.is(8, x.count(6));
            p.is(1, x.fine(1));
        });
        edge("Terms", "a CART in a minute of 0 to 59", p -> {
            SweptDownhill x = town("9", "");
            x.fall(0, 0, ASH, 1);
            x.fall(1, 0, ASH, 2);
            p.is(1, x.cart(59, 0));
            p.is(3, x.lies(0, 58, NONE));
            p.is(0, x.lies(0, 59, NONE));
            p.is(2, x.cart(0, 0));
            p.is(0, x.lies(0, 0, NONE));
            p.is(2, x.lies(0, 58, NONE));
            p.refused(x, BAD, () -> x.cart(-1, 0));
            p.refused(x, BAD, () -> x.cart(60, 0));
        });
        edge("Terms", "a CART at a DOOR of 0 to 7, also at one that is not there", p -> {
            SweptDownhill x = town("95", "");
            p.is(1, x.cart(0, 0));
            p.is(2, x.cart(0, 7));
            p.refused(x, BAD, () -> x.cart(0, -1));
            p.refused(x, BAD, () -> x.cart(0, 8));
        });
        edge("11 cart", "BAD comes ahead of FULL", p -> {
            SweptDownhill x = new SweptDownhill();
            for (int i = 0; i < 8; i++) {
                x.cart(0, 0);
            }
            p.is(BAD, x.cart(60, 0));
            p.is(BAD, x.cart(0, 8));
            p.is(FULL, x.cart(0, 0));
        });
    }

    private void rain() {
        edge("Terms", "RAIN in a minute of 0 to 59", p -> {
            SweptDownhill x = ladder();
            x.fall(0, 0, ASH, 1);
            x.fall(1, 0, ASH, 2);
            p.is(0, x.rain(0, 1));
            p.heaps("0 0 0 1", x, 0);
            p.heaps("2 0 0 1", x, 59);
            p.is(0, x.rain(59, 1));
            p.heaps("0 0 0 3", x, 59);
            p.refused(x, BAD, () -> x.rain(-1, 1));
            p.refused(x, BAD, () -> x.rain(60, 1));
        });
        edge("Terms", "RAIN is 1 or 0", p -> {
            SweptDownhill x = new SweptDownhill();
            p.is(0, x.rain(5, 0));
            p.is(0, x.rain(5, 1));
            p.refused(x, BAD, () -> x.rain(5, -1));
            p.refused(x, BAD, () -> x.rain(5, 2));
            p.is(1, x.rain(5, 0));
        });
        edge("Terms", "there is no RAIN at first", p -> {
            SweptDownhill x = ladder();
            x.fall(0, 0, ASH, 1);
            p.heaps("1 0 0 0", x, 59);
            for (int minute = 0; minute < 60; minute++) {
                p.is(0, x.rain(minute, 1));
            }
        });
        edge("12 rain", "what it was: also of one that becomes what it is", p -> {
            SweptDownhill x = new SweptDownhill();
            p.is(0, x.rain(3, 0));
            p.is(0, x.rain(3, 1));
            p.is(1, x.rain(3, 1));
            p.is(1, x.rain(3, 0));
            p.is(0, x.rain(4, 0));
        });
    }

    private void undo() {
        edge("13 undo", "the last FALL that was told, not the last by minutes", p -> {
            SweptDownhill x = town("95", "");
            x.fall(9, 0, ASH, 1);
            x.fall(0, 1, ASH, 2);
            p.is(1, x.undo(0));
            p.heaps("1 0", x, 59);
        });
        edge("13 undo", "the last SWEEP that was told, not the last by minutes", p -> {
            SweptDownhill x = ladder();
            x.fall(0, 0, ASH, 1);
            x.fall(0, 1, ASH, 2);
            x.sweep(9, 0);
            x.sweep(0, 1);
            p.is(1, x.undo(1));
            p.heaps("0 3 0 0", x, 59);
        });
        edge("13 undo", "the last CART that was told, not the last by minutes", p -> {
            SweptDownhill x = town("95", "");
            x.fall(0, 0, ASH, 1);
            x.fall(0, 1, ASH, 2);
            x.cart(9, 0);
            x.cart(0, 1);
            p.is(1, x.undo(2));
            p.heaps("0 2", x, 59);
        });
        edge("13 undo", "how many are left: down to none", p -> {
            SweptDownhill x = new SweptDownhill();
            for (int i = 0; i < 3; i++) {
                x.fall(0, 0, ASH, 1);
                x.sweep(0, 0);
                x.cart(0, 0);
            }
            p.row("2 1 0", 3, i -> x.undo(0));
            p.row("2 1 0", 3, i -> x.undo(1));
            p.row("2 1 0", 3, i -> x.undo(2));
        });
        edge("13 undo", "NOT: there is none of these, though there are others", p -> {
            SweptDownhill x = new SweptDownhill();
            p.row("-3 -3 -3", 3, x::undo);
            x.sweep(0, 0);
            p.refused(x, NOT, () -> x.undo(0));
            p.refused(x, NOT, () -> x.undo(2));
            p.is(0, x.undo(1));
            x.cart(0, 0);
            p.refused(x, NOT, () -> x.undo(1));
            p.is(0, x.count(8));
        });
        edge("13 undo", "another what than 0 to 2 is BAD", p -> {
            SweptDownhill x = new SweptDownhill();
            x.fall(0, 0, ASH, 1);
            x.cart(0, 0);
            p.refused(x, BAD, () -> x.undo(-1));
            p.refused(x, BAD, () -> x.undo(3));
        });
        edge("13 undo", "behind FULL there is room again", p -> {
            SweptDownhill x = new SweptDownhill();
            heap(x, 0, 0, 180);
            for (int i = 0; i < 24; i++) {
                x.sweep(0, 0);
                x.cart(0, 0);
            }
            p.row("19 23 7", 3, x::undo);
            p.is(20, x.fall(0, 0, ASH, 1));
            p.is(24, x.sweep(0, 0));
            p.is(8, x.cart(0, 0));
        });
    }
}
