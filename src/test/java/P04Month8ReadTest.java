/** Promise 4, in a month, 8: boreholes read. */
public final class P04Month8ReadTest {
    public static void main(String[] args) {
        allLayers();
        eachCell();
        driftRoundedTowardZero();
        sinceItWasSunk();
        together();
        behindAllElse();
        Check.end("P04Month8ReadTest");
    }

    /** "Boreholes read all layers of their cells: each temperature" */
    private static void allLayers() {
        Wakeground land = new Wakeground();
        int[] energy = {-4000, 2000, -3000, 25000, -2000};
        for (int layer = 0; layer < 5; layer++) {
            land.ground(6, layer, 5, 2, energy[layer], 0);
        }
        land.borehole(6, 0);
        land.borehole(7, 0);
        for (int month = 0; month < 3; month++) {
            land.pass(1, -10, 0);
            for (int layer = 0; layer < 5; layer++) {
                Check.due("reading(0, " + month + ", " + layer + ")", land.reading(0, month, layer),
                        land.layerOf(6, layer, 0));
                Check.due("reading(1, " + month + ", " + layer + ")", land.reading(1, month, layer),
                        land.layerOf(7, layer, 0));
            }
        }
        Check.so("layer 3 is warm", land.reading(0, 0, 3) > 0);
        Check.so("layer 0 is cold", land.reading(0, 0, 0) < -20);
    }

    private static void eachCell() {
        for (int cell = 0; cell < 25; cell++) {
            Wakeground land = new Wakeground();
            land.borehole(cell, 0);
            land.ground(cell, 2, 5, 3, -3000, 0);
            land.pass(1, -10, 0);
            Check.due("cell " + cell, land.reading(0, 0, 2), -22);
        }
    }

    /** "the drift times the months since it was sunk, with this one, divided by 12, rounded toward 0" */
    private static void driftRoundedTowardZero() {
        int[] drift = {12, 11, 7, 1, 0, -1, -7, -11, -12};
        int[] months = {1, 2, 11, 12, 13, 23, 24, 25};
        int[][] due = {
            {1, 2, 11, 12, 13, 23, 24, 25},
            {0, 1, 10, 11, 11, 21, 22, 22},
            {0, 1, 6, 7, 7, 13, 14, 14},
            {0, 0, 0, 1, 1, 1, 2, 2},
            {0, 0, 0, 0, 0, 0, 0, 0},
            {0, 0, 0, -1, -1, -1, -2, -2},
            {0, -1, -6, -7, -7, -13, -14, -14},
            {0, -1, -10, -11, -11, -21, -22, -22},
            {-1, -2, -11, -12, -13, -23, -24, -25}};
        for (int i = 0; i < drift.length; i++) {
            Wakeground land = Lands.still(6);
            land.borehole(6, drift[i]);
            land.pass(24, 0, 0);
            land.pass(1, 0, 0);
            Check.due("temperature", land.layerOf(6, 2, 0), 0);
            for (int j = 0; j < months.length; j++) {
                Check.due("drift " + drift[i] + ", months " + months[j], land.reading(0, months[j] - 1, 2),
                        due[i][j]);
            }
        }
    }

    /** "since it was sunk": the months ahead of that don't count. */
    private static void sinceItWasSunk() {
        Wakeground land = Lands.still(6);
        land.borehole(6, 12);
        land.pass(5, 0, 0);
        land.borehole(6, 12);
        land.pass(2, 0, 0);
        Check.due("sunk at first", land.reading(0, 5, 2), 6);
        Check.due("sunk in the month 5", land.reading(1, 5, 2), 1);
        Check.due("sunk in the month 5, then", land.reading(1, 6, 2), 2);
    }

    /** "together": the rounding is that of the drift alone, and of the temperature alone. */
    private static void together() {
        int[] energy = {-180, -150, -50, 5050, 5150, 5180};
        int[] degrees = {-1, -1, 0, 0, 1, 1};
        for (int i = 0; i < energy.length; i++) {
            // layers of one energy lead no heat among them
            Wakeground land = Lands.even(6, 5, energy[i]);
            land.borehole(6, -11);
            land.borehole(6, 11);
            land.pass(2, 0, 0);
            Check.due("temperature", land.layerOf(6, 3, 0), degrees[i]);
            Check.due("drift -11, 1 month", land.reading(0, 0, 3), degrees[i]);
            Check.due("drift -11, 2 months", land.reading(0, 1, 3), degrees[i] - 1);
            Check.due("drift 11, 1 month", land.reading(1, 0, 3), degrees[i]);
            Check.due("drift 11, 2 months", land.reading(1, 1, 3), degrees[i] + 1);
        }
    }

    /** Read is the ground behind the month; what is told later changes no reading. */
    private static void behindAllElse() {
        Wakeground land = new Wakeground();
        land.borehole(3, 0);
        land.pass(1, 20, 0);
        Check.due("layer 0", land.reading(0, 0, 0), -7);
        Check.due("layer 4", land.reading(0, 0, 4), -9);
        land.ground(3, 0, 5, 0, -5000, 0);
        Check.due("told later", land.reading(0, 0, 0), -7);
        Wakeground cracking = Lands.pond(0, 1);
        cracking.borehole(0, 0);
        cracking.pass(1, -20, 0);
        Check.due("a wedge", cracking.reading(0, 1, 1), 0);
    }
}
