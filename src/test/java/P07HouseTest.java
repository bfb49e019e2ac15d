/** Promises 7 and 15: house, and houseOf but for what a claim would be, which P09ClaimTest looks at. */
public final class P07HouseTest {
    public static void main(String[] args) {
        building();
        refused();
        onWater();
        most();
        Check.end("P07HouseTest");
    }

    private static void told(Wakeground land, int house, int cell, int pile, int tilt, int built) {
        int[] due = {cell, pile, tilt, built, 0};
        for (int what = 0; what < due.length; what++) {
            Check.due("houseOf(" + house + ", " + what + ")", land.houseOf(house, what), due[what]);
        }
        Check.due("cellOf(" + cell + ", 5)", land.cellOf(cell, 5), house);
    }

    private static void building() {
        Wakeground land = new Wakeground();
        Check.due("the first", land.house(24, 1, false), 0);
        land.pass(7, -10, 0);
        Check.due("the second", land.house(0, 4, true), 1);
        told(land, 0, 24, 1, 0, 0);
        told(land, 1, 0, 4, 0, 7);
        Check.due("no house", land.cellOf(1, 5), Wakeground.NONE);
        land.ground(0, 4, 5, 0, 4000, 0);
        land.pass(2, -10, 0);
        told(land, 1, 0, 4, 2, 7);
        told(land, 0, 24, 1, 0, 0);
        Check.noIndex("houseOf(-1, 0)", land, () -> land.houseOf(-1, 0));
        Check.noIndex("houseOf(2, 0)", land, () -> land.houseOf(2, 0));
        Check.noArgument("houseOf(0, -1)", land, () -> land.houseOf(0, -1));
        Check.noArgument("houseOf(0, 5)", land, () -> land.houseOf(0, 5));
        Check.noIndex("houseOf(2, 5)", land, () -> land.houseOf(2, 5));
        Check.balanced("houses", land);
    }

    private static void refused() {
        Wakeground land = new Wakeground();
        Check.noIndex("cell -1", land, () -> land.house(-1, 1, true));
        Check.noIndex("cell 25", land, () -> land.house(25, 1, true));
        Check.noIndex("pile 0", land, () -> land.house(0, 0, true));
        Check.noIndex("pile 5", land, () -> land.house(0, 5, false));
        Check.noIndex("pile -1", land, () -> land.house(0, -1, false));
        Check.noIndex("the smallest pile", land, () -> land.house(0, Integer.MIN_VALUE, false));
        Check.noIndex("the largest pile", land, () -> land.house(0, Integer.MAX_VALUE, false));
        land.house(3, 2, false);
        Check.noState("one in the cell", land, () -> land.house(3, 3, true));
        Check.noIndex("pile ahead of the one there", land, () -> land.house(3, 0, true));
        Check.due("the next number", land.house(4, 2, false), 1);
    }

    private static void onWater() {
        for (int units = 2; units <= 3; units++) {
            Wakeground land = new Wakeground();
            land.ground(12, 4, 0, units, 25000, 0);
            land.pass(1, -10, 0);
            if (units == 3) {
                Check.noState("a LAKE", land, () -> land.house(12, 1, true));
                Check.noIndex("pile ahead of the LAKE", land, () -> land.house(12, 5, true));
                land.breach(12);
            }
            Check.due("no LAKE", land.house(12, 1, true), 0);
        }
    }

    private static void most() {
        Wakeground land = new Wakeground();
        for (int i = 0; i < 10; i++) {
            Check.due("house", land.house(2 * i, 1 + i % 4, i % 2 == 0), i);
        }
        Check.noState("an 11th", land, () -> land.house(1, 1, true));
        Check.noIndex("cell ahead of an 11th", land, () -> land.house(25, 1, true));
        Check.due("the 10th", land.houseOf(9, 0), 18);
        Check.noIndex("houseOf(10, 0)", land, () -> land.houseOf(10, 0));
    }
}
