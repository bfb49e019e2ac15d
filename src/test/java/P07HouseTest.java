/** Promise 7: house. */
public final class P07HouseTest {
    public static void main(String[] args) {
        numberedFromZero();
        eachCell();
        oneInACell();
        inWater();
        tenAtMost();
        cells();
        piles();
        firstException();
        Check.end("P07HouseTest");
    }

    /** "Houses are numbered from 0" */
    private static void numberedFromZero() {
        Wakeground land = new Wakeground();
        Check.due("the first", land.house(24, 1, false), 0);
        land.pass(7, -10, 0);
        Check.due("the second", land.house(0, 4, true), 1);
        Check.due("its cell", land.houseOf(1, 0), 0);
        Check.due("the cell of the first", land.houseOf(0, 0), 24);
        Check.due("cellOf(24, 5)", land.cellOf(24, 5), 0);
        Check.due("cellOf(0, 5)", land.cellOf(0, 5), 1);
        Check.due("cellOf(1, 5)", land.cellOf(1, 5), Wakeground.NONE);
        Check.balanced("houses", land);
    }

    private static void eachCell() {
        for (int cell = 0; cell < 25; cell++) {
            for (int pile = 1; pile <= 4; pile++) {
                Wakeground land = new Wakeground();
                Check.due("house(" + cell + ", " + pile + ", ..)", land.house(cell, pile, pile % 2 == 0), 0);
                Check.due("its cell", land.houseOf(0, 0), cell);
                Check.due("its pile", land.houseOf(0, 1), pile);
                Check.due("the house of the cell", land.cellOf(cell, 5), 0);
            }
        }
    }

    /** "one in a cell at most" */
    private static void oneInACell() {
        for (int pile = 1; pile <= 4; pile++) {
            int second = pile;
            Check.noState("a second one on " + pile, Lands::rich, land -> land.house(6, second, false));
            Check.noState("a second one on " + pile, Lands::rich, land -> land.house(8, second, true));
        }
        Wakeground land = Lands.rich();
        Check.due("beside", land.house(7, 2, true), 2);
        Check.noState("the second of two", () -> {
            Wakeground made = new Wakeground();
            made.house(3, 1, true);
            made.house(4, 1, true);
            return made;
        }, made -> made.house(3, 1, true));
    }

    /** "it is a LAKE" */
    private static void inWater() {
        for (int units = 1; units <= 4; units++) {
            int water = units;
            if (units < 3) {
                Check.due(units + " units", Lands.pond(12, units).house(12, 1, true), 0);
            } else {
                Check.noState(units + " units", () -> Lands.pond(12, water), land -> land.house(12, 1, true));
            }
            Check.due("beside", Lands.pond(12, units).house(13, 1, true), 0);
        }
        Wakeground drained = Lands.pond(12, 3);
        drained.breach(12);
        Check.due("drained", drained.house(12, 1, true), 0);
        Check.noState("a LAKE in a rich land", Lands::rich, land -> land.house(12, 4, false));
    }

    /** "at most 10" */
    private static void tenAtMost() {
        Wakeground nine = new Wakeground();
        for (int i = 0; i < 9; i++) {
            nine.house(i, 1, true);
        }
        Check.due("the 10th", nine.house(9, 1, true), 9);
        Check.due("the 10th of others", Lands.houses().houseOf(9, 0), 18);
        Check.noState("an 11th", Lands::houses, land -> land.house(1, 1, true));
        Check.noState("an 11th in a cell with a house", Lands::houses, land -> land.house(2, 1, true));
        Check.noState("an 11th in the last cell", Lands::houses, land -> land.house(24, 4, false));
    }

    /** "`cell`: 0 to 24" */
    private static void cells() {
        Check.indexes("cell", 0, 24, Lands::rich, (land, cell) -> land.house(cell, 2, true));
    }

    /** "`pile`: 1 to 4: the layer" */
    private static void piles() {
        Check.indexes("pile", 1, 4, Lands::rich, (land, pile) -> land.house(7, pile, true));
        Check.indexes("pile, without a pipe", 1, 4, Lands::rich, (land, pile) -> land.house(7, pile, false));
    }

    /** "the one that is listed first is thrown" */
    private static void firstException() {
        Check.noIndex("cell and pile", Lands::rich, land -> land.house(25, 0, true));
        for (int pile : new int[] {0, 5}) {
            Check.noIndex("pile ahead of the house there", Lands::rich, land -> land.house(6, pile, true));
            Check.noIndex("pile ahead of the LAKE", Lands::rich, land -> land.house(12, pile, true));
            Check.noIndex("pile ahead of the ten", Lands::houses, land -> land.house(1, pile, true));
        }
        Check.noIndex("cell 25 ahead of the ten", Lands::houses, land -> land.house(25, 1, true));
        Check.noIndex("cell -1 ahead of the ten", Lands::houses, land -> land.house(-1, 1, true));
    }
}
