/** Promise 11: cellOf. */
public final class P11CellOfTest {
    public static void main(String[] args) {
        all();
        ofTheCell();
        house();
        cellsOfItsLake();
        thawedFromAbove();
        thawedAtZero();
        ranges();
        firstException();
        Check.end("P11CellOfTest");
    }

    private static void all() {
        Wakeground land = new Wakeground();
        Lands.melt(land, 12, 7);
        Lands.melt(land, 13, 1);
        land.pass(1, -10, 6);
        land.moss(12, 1);
        land.ground(12, 0, 5, 0, 0, 0);
        land.ground(12, 1, 5, 9, -5000, 0);
        int[] due = {93, 7, 6, 1, 0, Wakeground.NONE, 2, 1};
        for (int what = 0; what < due.length; what++) {
            Check.due("cellOf(12, " + what + ")", land.cellOf(12, what), due[what]);
        }
        land.pass(1, -20, 0);
        Check.due("wedges", land.cellOf(12, 4), 1);
    }

    /** Each cell answers for itself. */
    private static void ofTheCell() {
        Wakeground land = new Wakeground();
        Lands.ponds(land, new int[] {0, 24}, new int[] {2, 5});
        land.moss(0, 0);
        land.moss(24, 3);
        land.house(0, 1, true);
        int[] first = {98, 2, 0, 0, 0, 0, 1, 0};
        int[] last = {95, 5, 0, 3, 0, Wakeground.NONE, 1, 0};
        for (int what = 0; what < 8; what++) {
            Check.due("cellOf(0, " + what + ")", land.cellOf(0, what), first[what]);
            Check.due("cellOf(24, " + what + ")", land.cellOf(24, what), last[what]);
        }
    }

    /** "5 its house, NONE" */
    private static void house() {
        Wakeground land = Lands.houses();
        for (int cell = 0; cell < 25; cell++) {
            int due = cell % 2 == 0 && cell <= 18 ? cell / 2 : Wakeground.NONE;
            Check.due("house of " + cell, land.cellOf(cell, 5), due);
        }
    }

    /** "6 how many cells its lake has, 0 if it has no water" */
    private static void cellsOfItsLake() {
        Wakeground land = new Wakeground();
        int[] cells = {4, 5, 0, 6, 18, 19, 24, 20};
        int[] units = {3, 4, 1, 5, 1, 1, 1, 2};
        int[] sizes = {1, 3, 3, 3, 3, 3, 3, 1};
        int[] due = new int[25];
        for (int i = 0; i < cells.length; i++) {
            due[cells[i]] = sizes[i];
        }
        Lands.ponds(land, cells, units);
        for (int cell = 0; cell < 25; cell++) {
            Check.due("lake of " + cell, land.cellOf(cell, 6), due[cell]);
        }
        for (int water = 1; water <= 3; water++) {
            Check.due(water + " units", Lands.pond(12, water).cellOf(12, 6), 1);
        }
        Wakeground all = new Wakeground();
        for (int cell = 0; cell < 25; cell++) {
            Lands.melt(all, cell, 1);
        }
        all.pass(1, -10, 0);
        Check.due("all of the land", all.cellOf(12, 6), 25);
        all.breach(0);
        Check.due("drained", all.cellOf(12, 6), 0);
    }

    /** "7 how many layers, from above, are thawed, one behind the other" */
    private static void thawedFromAbove() {
        for (int which = 0; which < 32; which++) {
            Wakeground land = new Wakeground();
            for (int layer = 0; layer < 5; layer++) {
                boolean isThawed = (which >> layer & 1) == 1;
                land.ground(3, layer, 5, 0, isThawed ? 0 : -1, 0);
            }
            Check.due("thawed " + Integer.toBinaryString(which), land.cellOf(3, 7),
                    Integer.numberOfTrailingZeros(~which));
        }
    }

    /** "It is thawed, if its energy is 0 or more." */
    private static void thawedAtZero() {
        int[] energy = {-5000, -100, -99, -1, 0, 1, 999, 5000, 30000};
        for (int i = 0; i < energy.length; i++) {
            Wakeground land = new Wakeground();
            land.ground(3, 0, 5, 0, energy[i], 0);
            Check.due("thawed at " + energy[i], land.cellOf(3, 7), energy[i] >= 0 ? 1 : 0);
        }
    }

    /** "`cell`: 0 to 24", "`what`: 0 .. 7" */
    private static void ranges() {
        for (int what = 0; what <= 7; what++) {
            int asked = what;
            Check.indexes("cell, what " + what, 0, 24, Lands::rich, (land, cell) -> land.cellOf(cell, asked));
        }
        Check.arguments("what", 0, 7, Lands::rich, (land, what) -> land.cellOf(12, what));
        Check.arguments("what of a cell without water", 0, 7, Lands::rich, (land, what) -> land.cellOf(24, what));
    }

    /** "the one that is listed first is thrown" */
    private static void firstException() {
        Check.noIndex("cellOf(25, 8)", Lands::rich, land -> land.cellOf(25, 8));
        Check.noIndex("cellOf(-1, -1)", Lands::rich, land -> land.cellOf(-1, -1));
    }
}
