/** Lands for the tests, and what makes them. */
final class Lands {
    private Lands() {
    }

    /** A land in the month 7 with some of everything: what a refused call changed would show. */
    static Wakeground rich() {
        Wakeground land = new Wakeground();
        land.house(6, 2, true);
        land.house(8, 3, false);
        land.borehole(6, 12);
        land.borehole(8, -7);
        land.borehole(8, 0);
        land.ground(6, 2, 9, 9, 9000, 300);
        land.ground(8, 3, 9, 9, 9000, 1000);
        land.ground(12, 4, 0, 5, 25000, 1000);
        land.ground(13, 4, 0, 1, 25000, 700);
        land.ground(20, 3, 0, 2, 12000, 1000);
        land.moss(3, 1);
        land.moss(4, 3);
        land.pass(1, -25, 2);
        land.breach(20);
        land.pass(2, 15, 0);
        land.claim(0);
        land.fire(1);
        land.pass(3, -25, 2);
        land.claim(1);
        land.ground(0, 0, 3, 1, 2500, 333);
        land.pass(1, -25, 1);
        return land;
    }

    /** The same in the month 8, without snow. */
    static Wakeground richWithoutSnow() {
        Wakeground land = rich();
        land.pass(1, 3, 0);
        return land;
    }

    /** A land in which many months have passed; in its cell 0 there was a fire. */
    static Wakeground old(int month) {
        Wakeground land = new Wakeground();
        land.borehole(0, 12);
        land.fire(0);
        int left = month;
        while (left > 0) {
            land.pass(Math.min(left, 24), -12, 1);
            left -= 24;
        }
        return land;
    }

    /** Goes on with a land, whatever of it is taken. */
    static Wakeground goneOn(Wakeground land) {
        for (int cell = 14; cell < 17; cell++) {
            int site = cell;
            Questions.attempt(land, made -> made.house(site, 4, site == 15));
        }
        Questions.attempt(land, made -> made.borehole(14, 5));
        Questions.attempt(land, made -> made.claim(0));
        Questions.attempt(land, made -> made.ground(14, 4, 1, 8, 9000, 500));
        Questions.attempt(land, made -> made.pass(2, -30, 1));
        Questions.attempt(land, made -> made.breach(12));
        Questions.attempt(land, made -> made.pass(1, 20, 0));
        Questions.attempt(land, made -> made.fire(2));
        Questions.attempt(land, made -> made.claim(1));
        return land;
    }

    /** A land in which no heat is led in one cell, while the air has 0 degrees, but for the 10 from below. */
    static Wakeground still(int cell) {
        return even(cell, 5, 0);
    }

    /** A land in which the layers of one cell have the same pore units and energy, and no carbon. */
    static Wakeground even(int cell, int pore, int energy) {
        Wakeground land = new Wakeground();
        for (int layer = 0; layer < 5; layer++) {
            land.ground(cell, layer, pore, 0, energy, 0);
        }
        return land;
    }

    /** A land in the month 1 with a pond in one cell. */
    static Wakeground pond(int cell, int units) {
        Wakeground land = new Wakeground();
        ponds(land, new int[] {cell}, new int[] {units});
        return land;
    }

    /** Makes ponds within a month of -10 degrees; the cells are lower by so much, but frozen as at first. */
    static void ponds(Wakeground land, int[] cells, int[] units) {
        for (int i = 0; i < cells.length; i++) {
            melt(land, cells[i], units[i]);
        }
        land.pass(1, -10, 0);
        for (int i = 0; i < cells.length; i++) {
            Check.due("pond of " + cells[i], land.cellOf(cells[i], 1), units[i]);
            freeze(land, cells[i]);
        }
    }

    /** Tells ground whose units get into the pond in the next month. */
    static void melt(Wakeground land, int cell, int units) {
        land.ground(cell, 4, 0, units, 25000, 0);
    }

    private static void freeze(Wakeground land, int cell) {
        land.ground(cell, 3, 5, 2, -1000, 400);
        land.ground(cell, 4, 5, 0, -1000, 400);
    }

    /** Makes a cell lower, within a month of -10 degrees, and leaves it without water. */
    static void sink(Wakeground land, int cell, int by) {
        int height = land.cellOf(cell, 0);
        melt(land, cell, by);
        land.pass(1, -10, 0);
        if (by > 0) {
            Check.due("sinking", land.breach(cell), by);
        }
        freeze(land, cell);
        Check.due("sunk", land.cellOf(cell, 0), height - by);
    }

    /** A land with ten houses, in the cells 0, 2, .. 18. */
    static Wakeground houses() {
        Wakeground land = new Wakeground();
        for (int i = 0; i < 10; i++) {
            Check.due("a house", land.house(2 * i, 1 + i % 4, i % 2 == 0), i);
        }
        return land;
    }

    /** A land with ten boreholes, in the cells 24, 23, .. 15. */
    static Wakeground boreholes() {
        Wakeground land = new Wakeground();
        for (int i = 0; i < 10; i++) {
            Check.due("a borehole", land.borehole(24 - i, i), i);
        }
        return land;
    }

    /** A land with forty claims, of two houses. */
    static Wakeground claims() {
        Wakeground land = new Wakeground();
        land.house(7, 1, true);
        land.house(8, 1, true);
        for (int i = 0; i < 40; i++) {
            Check.due("a claim", land.claim(i % 2), i);
        }
        return land;
    }
}
