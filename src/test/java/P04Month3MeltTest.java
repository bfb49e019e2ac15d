/** Promise 4, in a month, 3: what melts leaves its layer. */
public final class P04Month3MeltTest {
    public static void main(String[] args) {
        roundedDown();
        zeroAtLeast();
        allOfTheLayer();
        abovePoreUnits();
        withoutUnits();
        eachCellAndLayer();
        manyLayers();
        heatFirst();
        Check.end("P04Month3MeltTest");
    }

    /** Lets a month pass over a layer 2 between layers of 0 degrees. */
    private static void melts(int pore, int excess, int energy, int leave, int energyThen) {
        Wakeground land = Lands.still(3);
        land.ground(3, 2, pore, excess, energy, 0);
        land.pass(1, 0, 0);
        String what = "pore " + pore + ", excess " + excess + ", energy " + energy;
        Check.due(what + ": energy", land.layerOf(3, 2, 1), energyThen);
        Check.due(what + ": pore", land.layerOf(3, 2, 2), pore);
        Check.due(what + ": excess", land.layerOf(3, 2, 3), excess - leave);
        Check.due(what + ": height", land.cellOf(3, 0), 100 - leave);
        Check.due(what + ": water", land.cellOf(3, 1), leave);
        Check.balanced(what, land);
    }

    /** "the energy divided by 1000, rounded down" */
    private static void roundedDown() {
        melts(0, 5, 999, 0, 999);
        melts(0, 5, 1000, 1, 0);
        melts(0, 5, 1001, 1, 1);
        melts(0, 5, 1999, 1, 999);
        melts(0, 5, 2000, 2, 0);
        melts(0, 5, 4999, 4, 999);
    }

    /** "0 at least" */
    private static void zeroAtLeast() {
        melts(0, 9, 1, 0, 1);
        melts(0, 9, 0, 0, 0);
        melts(0, 9, -1, 0, -1);
        melts(0, 9, -99, 0, -99);
        // 20 come from above and from below for each degree
        melts(0, 9, -999, 0, -999 + 2 * 180);
        melts(0, 9, -1000, 0, -1000 + 2 * 200);
        melts(0, 9, -5000, 0, -5000 + 2 * 1000);
    }

    /** "at most all of the layer" */
    private static void allOfTheLayer() {
        melts(0, 3, 2999, 2, 999);
        melts(0, 3, 3000, 3, 0);
        melts(0, 3, 3001, 3, 1);
        // 9 degrees, of which 20 each go up and down
        melts(0, 3, 3999, 3, 999 - 2 * 180);
        melts(0, 3, 4500, 3, 1500 - 2 * 300);
        melts(0, 3, 30000, 3, 27000 - 2 * 5400);
        melts(0, 9, 9000, 9, 0);
        melts(0, 9, 10000, 9, 1000 - 2 * 200);
    }

    /** "those above its pore units leave it" */
    private static void abovePoreUnits() {
        melts(4, 3, 3999, 0, 3999);
        melts(4, 3, 4000, 0, 4000);
        melts(4, 3, 4999, 0, 4999);
        melts(4, 3, 5000, 1, 4000);
        melts(4, 3, 5999, 1, 4999);
        melts(4, 3, 6000, 2, 4000);
        melts(4, 3, 7000, 3, 4000);
        melts(9, 9, 9999, 0, 9999);
        melts(9, 9, 10000, 1, 9000);
        melts(9, 9, 18000, 9, 9000);
    }

    /** "at most all of the layer", where it has no excess, or nothing at all */
    private static void withoutUnits() {
        melts(9, 0, 9000, 0, 9000);
        melts(9, 0, 9099, 0, 9099);
        melts(0, 0, 99, 0, 99);
        melts(0, 0, 1000, 0, 1000 - 2 * 200);
        melts(0, 1, 999, 0, 999);
        melts(0, 1, 1000, 1, 0);
    }

    private static void eachCellAndLayer() {
        for (int cell = 0; cell < 25; cell++) {
            for (int layer = 0; layer < 5; layer++) {
                Wakeground land = Lands.still(cell);
                land.ground(cell, layer, 0, 2, 1000, 0);
                land.pass(1, 0, 0);
                String what = "cell " + cell + ", layer " + layer;
                Check.due(what + ": excess", land.layerOf(cell, layer, 3), 1);
                Check.due(what + ": height", land.cellOf(cell, 0), 99);
                Check.due(what + ": water", land.cellOf(cell, 1), 1);
            }
        }
    }

    private static void manyLayers() {
        Wakeground land = new Wakeground();
        for (int layer = 0; layer < 5; layer++) {
            land.ground(20, layer, 0, layer + 1, 30000, 0);
        }
        land.pass(1, 0, 0);
        Check.due("height", land.cellOf(20, 0), 85);
        Check.due("water", land.cellOf(20, 1), 15);
        for (int layer = 0; layer < 5; layer++) {
            Check.due("excess " + layer, land.layerOf(20, layer, 3), 0);
        }
        Check.balanced("many layers", land);
    }

    /** What melts goes by the energy behind the heat of the month. */
    private static void heatFirst() {
        int[] energy = {989, 990};
        for (int i = 0; i < energy.length; i++) {
            Wakeground land = Lands.still(3);
            land.ground(3, 4, 0, 3, energy[i], 0);
            land.pass(1, 0, 0);
            Check.due("10 come to " + energy[i], land.cellOf(3, 1), i);
            Check.due("energy", land.layerOf(3, 4, 1), energy[i] + 10 - 1000 * i);
        }
        Wakeground cooling = Lands.still(3);
        cooling.ground(3, 0, 0, 3, 1000, 0);
        cooling.pass(1, -1, 0);
        Check.due("10 go out", cooling.layerOf(3, 0, 1), 990);
        Check.due("no water", cooling.cellOf(3, 1), 0);
    }
}
