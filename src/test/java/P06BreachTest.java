/** Promise 6: breach. */
public final class P06BreachTest {
    public static void main(String[] args) {
        draining();
        wholeLake();
        Check.end("P06BreachTest");
    }

    private static void draining() {
        Wakeground land = new Wakeground();
        Check.noIndex("breach(-1)", land, () -> land.breach(-1));
        Check.noIndex("breach(25)", land, () -> land.breach(25));
        Check.noState("no water", land, () -> land.breach(12));
        land.ground(12, 4, 0, 1, 25000, 0);
        land.pass(1, -10, 0);
        Check.noState("no water beside it", land, () -> land.breach(11));
        Check.due("breach(12)", land.breach(12), 1);
        Check.noState("no water more", land, () -> land.breach(12));
        Check.due("height", land.cellOf(12, 0), 99);
        Check.due("water that left", land.balance(1, 2), 1);
        Check.due("heat that left", land.balance(0, 2), 1000);
        Check.due("water in the land", land.balance(1, 0), 800 - 4 - 1);
        Check.balanced("breach", land);
        Check.due("sinking is no heat that came", land.balance(0, 1), -125000 + 26000 + 250);
    }

    /** A lake hangs together side by side, by cells with 1 unit too; not by corners. */
    private static void wholeLake() {
        Wakeground land = new Wakeground();
        int[] lake = {4, 3, 8, 13, 14, 12};
        int[] apart = {0, 5, 9, 16, 22};
        int units = 0;
        for (int i = 0; i < lake.length; i++) {
            land.ground(lake[i], 4, 0, i + 1, 25000, 0);
            units += i + 1;
        }
        land.ground(0, 4, 0, 2, 25000, 0);
        land.ground(16, 4, 0, 2, 25000, 0);
        land.ground(22, 4, 0, 2, 25000, 0);
        land.ground(5, 4, 0, 4, 25000, 0);
        land.pass(1, -10, 0);
        Check.due("size", land.cellOf(14, 6), 6);
        Check.due("size of another", land.cellOf(5, 6), 2);
        Check.due("breach(14)", land.breach(14), units);
        for (int cell : lake) {
            Check.due("water of " + cell, land.cellOf(cell, 1), 0);
            Check.due("size of " + cell, land.cellOf(cell, 6), 0);
        }
        int[] water = {2, 4, 0, 2, 2};
        for (int i = 0; i < apart.length; i++) {
            Check.due("water of " + apart[i], land.cellOf(apart[i], 1), water[i]);
        }
        Check.due("water that left", land.balance(1, 2), units);
        Check.due("breach(0)", land.breach(0), 6);
        Check.due("heat that left", land.balance(0, 2), 1000 * (units + 6));
        Check.balanced("whole lake", land);
    }
}
