/** Promise 6: breach. */
public final class P06BreachTest {
    public static void main(String[] args) {
        noWater();
        allItsWater();
        noLakeMore();
        sideBySide();
        eachPair();
        wholeLake();
        heatThatDrained();
        cells();
        firstException();
        Check.end("P06BreachTest");
    }

    /** "`IllegalStateException` if it has no water" */
    private static void noWater() {
        Check.noState("no water", Wakeground::new, land -> land.breach(12));
        Check.noState("no water beside it", () -> Lands.pond(12, 5), land -> land.breach(11));
        Check.noState("no water in a rich land", Lands::rich, land -> land.breach(11));
        Check.noState("drained", () -> {
            Wakeground land = Lands.pond(12, 5);
            land.breach(12);
            return land;
        }, land -> land.breach(12));
        Check.due("1 unit", Lands.pond(12, 1).breach(12), 1);
    }

    /** "To breach it is to let all its water go": a lake need not have a LAKE. */
    private static void allItsWater() {
        for (int units = 1; units <= 9; units++) {
            Wakeground land = Lands.pond(12, units);
            Check.due(units + " units", land.breach(12), units);
            Check.due("water", land.cellOf(12, 1), 0);
            Check.due("height", land.cellOf(12, 0), 100 - units);
            Check.due("water that left", land.balance(1, 2), units);
            Check.due("heat that left", land.balance(0, 2), 1000 * units);
            Check.balanced(units + " units", land);
        }
    }

    private static void noLakeMore() {
        Wakeground land = Lands.pond(12, 3);
        Check.due("lakes", land.lakes(), 1);
        land.breach(12);
        Check.due("lakes then", land.lakes(), 0);
        Check.due("cells of its lake", land.cellOf(12, 6), 0);
    }

    /** "A lake are all cells with water that hang together, side by side." */
    private static void sideBySide() {
        int[] beside = {7, 11, 13, 17};
        int[] apart = {6, 8, 16, 18, 2, 10, 14, 22};
        for (int cell : beside) {
            Wakeground land = new Wakeground();
            Lands.ponds(land, new int[] {12, cell}, new int[] {4, 1});
            Check.due("12 and " + cell, land.breach(12), 5);
            Check.due("water of " + cell, land.cellOf(cell, 1), 0);
        }
        for (int cell : apart) {
            Wakeground land = new Wakeground();
            Lands.ponds(land, new int[] {12, cell}, new int[] {4, 1});
            Check.due("12 without " + cell, land.breach(12), 4);
            Check.due("water of " + cell, land.cellOf(cell, 1), 1);
        }
    }

    /** No cell hangs together with one that is not side by side with it, at the edges of the land too. */
    private static void eachPair() {
        for (int one = 0; one < 25; one++) {
            for (int other = one + 1; other < 25; other++) {
                Wakeground land = new Wakeground();
                Lands.ponds(land, new int[] {one, other}, new int[] {3, 2});
                int from = (one + other) % 2 == 0 ? one : other;
                int alone = from == one ? 3 : 2;
                Check.due(one + " and " + other, land.breach(from), PlainLand.isBeside(one, other) ? 5 : alone);
            }
        }
    }

    private static void wholeLake() {
        int[] lake = {4, 3, 8, 13, 14, 12};
        int[] units = {1, 2, 3, 4, 5, 6};
        int[] apart = {0, 5, 16, 22};
        int[] unitsApart = {2, 4, 2, 2};
        for (int from : lake) {
            Wakeground land = new Wakeground();
            for (int i = 0; i < lake.length; i++) {
                Lands.melt(land, lake[i], units[i]);
            }
            Lands.ponds(land, apart, unitsApart);
            Check.due("cells", land.cellOf(from, 6), 6);
            Check.due("breach(" + from + ")", land.breach(from), 21);
            for (int cell : lake) {
                Check.due("water of " + cell, land.cellOf(cell, 1), 0);
            }
            for (int i = 0; i < apart.length; i++) {
                Check.due("water of " + apart[i], land.cellOf(apart[i], 1), unitsApart[i]);
            }
            Check.due("water that left", land.balance(1, 2), 21);
            Check.due("another one", land.breach(5), 6);
            Check.due("heat that left", land.balance(0, 2), 27000);
            Check.balanced("whole lake", land);
        }
    }

    private static void heatThatDrained() {
        Wakeground land = new Wakeground();
        Lands.melt(land, 12, 1);
        land.pass(1, -10, 0);
        Check.due("sinking is no heat that came", land.balance(0, 1), -125000 + 26000 + 250);
        Check.due("heat of the land", land.balance(0, 0), -125000 + 26000 + 250);
        land.breach(12);
        Check.due("heat of the land then", land.balance(0, 0), -125000 + 26000 + 250 - 1000);
        Check.due("water of the land then", land.balance(1, 0), 800 - 4 - 1);
    }

    private static Wakeground allWater() {
        Wakeground land = new Wakeground();
        for (int cell = 0; cell < 25; cell++) {
            Lands.melt(land, cell, 3);
        }
        land.pass(1, -10, 0);
        return land;
    }

    /** "`cell`: 0 to 24" */
    private static void cells() {
        Check.due("all of the land", allWater().breach(24), 75);
        Check.indexes("cell", 0, 24, P06BreachTest::allWater, (land, cell) -> land.breach(cell));
    }

    /** "the one that is listed first is thrown" */
    private static void firstException() {
        Check.noIndex("breach(25) without water", Wakeground::new, land -> land.breach(25));
        Check.noIndex("breach(-1) without water", Lands::rich, land -> land.breach(-1));
    }
}
