/** Promise 4, in a month, 2: heat. */
public final class P04Month2HeatTest {
    /** 60 divided by 2, 3, .. 17, rounded down. */
    private static final int[] LED = {30, 20, 15, 12, 10, 8, 7, 6, 6, 5, 5, 4, 4, 4, 3, 3};

    public static void main(String[] args) {
        cover();
        snowOfTheMonth();
        aboveAndBelow();
        lakeLeads();
        lakeAir();
        lakeAhead();
        betweenLayers();
        asAheadOfIt();
        fromBelow();
        house();
        pipe();
        houseInEachCell();
        houseInLake();
        Check.end("P04Month2HeatTest");
    }

    /** "60 divided by the sum of 2, the snow and twice the moss, which quotient is rounded down" */
    private static void cover() {
        for (int moss = 0; moss <= 3; moss++) {
            for (int snow = 0; snow <= 9; snow++) {
                Wakeground land = new Wakeground();
                land.moss(13, moss);
                // at -10 no heat is led yet
                land.pass(1, -10, snow);
                land.pass(1, -15, 0);
                int led = LED[snow + 2 * moss];
                Check.due("snow " + snow + ", moss " + moss, land.layerOf(13, 0, 1), -1000 - 5 * led);
                Check.due("a neighbour", land.layerOf(12, 0, 1), -1000 - 5 * LED[snow + 4]);
            }
        }
    }

    /** The snow of the month lies when its heat is led; what thaws in it does not. */
    private static void snowOfTheMonth() {
        Wakeground land = new Wakeground();
        land.pass(1, -15, 9);
        Check.due("snow of the month", land.layerOf(13, 0, 1), -1000 - 5 * LED[9 + 4]);
        Wakeground thawing = new Wakeground();
        thawing.pass(1, -10, 9);
        thawing.pass(1, 5, 9);
        Check.due("snow that thaws", thawing.layerOf(13, 0, 1), -1000 + 15 * LED[4]);
    }

    /** "times what the air is above that layer (below 0 it goes out)" */
    private static void aboveAndBelow() {
        int[] air = {-9, -10, -11};
        int[] in = {30, 0, -30};
        for (int i = 0; i < air.length; i++) {
            Wakeground land = new Wakeground();
            land.moss(0, 0);
            land.pass(1, air[i], 0);
            Check.due("air " + air[i], land.layerOf(0, 0, 1), -1000 + in[i]);
            long others = 24 * in[i] / 3;
            Check.due("heat that came", land.balance(0, 1), -125000 + in[i] + others + 250);
            Check.balanced("air " + air[i], land);
        }
    }

    /** "A cell with 3 units of water or more is a LAKE.", "a LAKE leads 30" */
    private static void lakeLeads() {
        int[] led = {10, 10, 30, 30, 30};
        for (int units = 1; units <= 5; units++) {
            Wakeground land = Lands.pond(12, units);
            land.pass(1, 5, 0);
            Check.due(units + " units", land.layerOf(12, 0, 1), -1000 + 15 * led[units - 1]);
            Check.due("beside", land.layerOf(11, 0, 1), -1000 + 15 * 10);
            Check.balanced(units + " units", land);
        }
        Wakeground covered = Lands.pond(12, 3);
        covered.moss(12, 3);
        covered.pass(1, -5, 9);
        Check.due("under snow and moss", covered.layerOf(12, 0, 1), -1000 + 30 * 10);
    }

    /** "and its air is not below 0" */
    private static void lakeAir() {
        int[] air = {-50, -11, -1, 0, 1, 30};
        int[] ofLake = {0, 0, 0, 0, 1, 30};
        for (int i = 0; i < air.length; i++) {
            Wakeground lake = Lands.pond(12, 3);
            lake.pass(1, air[i], 0);
            Check.due("LAKE, air " + air[i], lake.layerOf(12, 0, 1), -1000 + 30 * (ofLake[i] + 10));
            Check.balanced("LAKE, air " + air[i], lake);
            Wakeground pond = Lands.pond(12, 2);
            pond.pass(1, air[i], 0);
            Check.due("pond, air " + air[i], pond.layerOf(12, 0, 1), -1000 + 10 * (air[i] + 10));
        }
    }

    /** Heat goes by the LAKEs ahead of the month: one that comes in it does not lead yet. */
    private static void lakeAhead() {
        Wakeground land = new Wakeground();
        Lands.melt(land, 12, 3);
        land.pass(1, -15, 0);
        Check.due("water then", land.cellOf(12, 1), 3);
        Check.due("no LAKE yet", land.layerOf(12, 0, 1), -1000 - 5 * 10);
        Wakeground drained = Lands.pond(12, 3);
        drained.breach(12);
        drained.pass(1, -15, 0);
        Check.due("no LAKE more", drained.layerOf(12, 0, 1), -1000 - 5 * 10);
    }

    /** "From each layer into the one below it come 20 times what it is above that." */
    private static void betweenLayers() {
        int[] energy = {5100, 5099, -99, -100};
        int[] degrees = {1, 0, 0, -1};
        for (int layer = 0; layer < 5; layer++) {
            for (int i = 0; i < energy.length; i++) {
                Wakeground land = Lands.still(6);
                land.ground(6, layer, 5, 0, energy[i], 0);
                land.pass(1, 0, 0);
                int[] due = {0, 0, 0, 0, 10};
                due[layer] += energy[i];
                due[layer] -= (layer == 0 ? 10 : 20) * degrees[i];
                if (layer > 0) {
                    due[layer - 1] += 20 * degrees[i];
                }
                if (layer < 4) {
                    due[layer] -= 20 * degrees[i];
                    due[layer + 1] += 20 * degrees[i];
                }
                for (int at = 0; at < 5; at++) {
                    Check.due("layer " + layer + " of " + energy[i] + ": " + at, land.layerOf(6, at, 1), due[at]);
                }
                Check.balanced("layer " + layer + " of " + energy[i], land);
            }
        }
    }

    /** "by temperatures as they are ahead of it" */
    private static void asAheadOfIt() {
        Wakeground land = new Wakeground();
        land.ground(6, 0, 5, 0, 8000, 0);
        land.ground(6, 1, 5, 0, -199, 0);
        land.ground(6, 2, 0, 0, 1099, 0);
        land.ground(6, 3, 1, 1, 2000, 0);
        land.ground(6, 4, 9, 0, -5000, 0);
        int[] degrees = {30, -1, 10, 0, -50};
        for (int layer = 0; layer < 5; layer++) {
            Check.due("temperature " + layer, land.layerOf(6, layer, 0), degrees[layer]);
        }
        land.pass(1, 10, 0);
        Check.due("layer 0", land.layerOf(6, 0, 1), 8000 - 200 - 620);
        Check.due("layer 1", land.layerOf(6, 1, 1), -199 + 620 + 220);
        Check.due("layer 2", land.layerOf(6, 2, 1), 1099 - 220 - 200);
        Check.due("layer 3", land.layerOf(6, 3, 1), 2000 + 200 - 1000);
        Check.due("layer 4", land.layerOf(6, 4, 1), -5000 + 1000 + 10);
        Check.balanced("as ahead of it", land);
    }

    /** "Into the layer 4 come 10 from below." */
    private static void fromBelow() {
        Wakeground land = new Wakeground();
        land.pass(1, -10, 0);
        for (int cell = 0; cell < 25; cell++) {
            Check.due("layer 4 of " + cell, land.layerOf(cell, 4, 1), -990);
            Check.due("layer 3 of " + cell, land.layerOf(cell, 3, 1), -1000);
        }
        Check.due("heat that came", land.balance(0, 1), -125000 + 250);
        // -990 is -9 degrees, and -980 too: 20 go up each month
        land.pass(1, -10, 0);
        Check.due("layer 4 then", land.layerOf(24, 4, 1), -1000);
        Check.due("layer 3 then", land.layerOf(24, 3, 1), -980);
        Check.balanced("from below", land);
    }

    /** "A house brings 300 more into the layer 0 of its cell" */
    private static void house() {
        int[] air = {-50, -1, 0, 1, 30};
        for (int degrees : air) {
            Wakeground land = Lands.still(7);
            land.house(7, 1, false);
            land.pass(1, degrees, 0);
            Check.due("air " + degrees, land.layerOf(7, 0, 1), 10 * degrees + 300);
            Check.due("layer 1", land.layerOf(7, 1, 1), 0);
            Check.balanced("air " + degrees, land);
        }
    }

    /** "with a pipe that cools, 300 go out there, if the air is below 0": they come and go then. */
    private static void pipe() {
        int[] air = {-50, -2, -1, 0, 1, 30};
        int[] brought = {0, 0, 0, 300, 300, 300};
        for (int i = 0; i < air.length; i++) {
            Wakeground land = Lands.still(7);
            land.house(7, 1, true);
            land.pass(1, air[i], 0);
            Check.due("air " + air[i], land.layerOf(7, 0, 1), 10 * air[i] + brought[i]);
            Check.balanced("air " + air[i], land);
        }
    }

    private static void houseInEachCell() {
        for (int cell = 0; cell < 25; cell++) {
            Wakeground land = new Wakeground();
            land.house(cell, 4, cell % 2 == 0);
            land.pass(1, 0, 0);
            for (int other = 0; other < 25; other++) {
                Check.due("house in " + cell + ", layer 0 of " + other, land.layerOf(other, 0, 1),
                        other == cell ? -600 : -900);
            }
            Check.due("heat that came", land.balance(0, 1), -125000 + 25 * 110 + 300);
        }
    }

    /** "if the air is below 0": the air of the month, not that of the LAKE, makes a pipe cool. */
    private static void houseInLake() {
        for (int air = -1; air <= 1; air++) {
            for (int cooled = 0; cooled <= 1; cooled++) {
                boolean isCooled = cooled == 1;
                Wakeground land = new Wakeground();
                land.house(12, 1, isCooled);
                Lands.ponds(land, new int[] {12}, new int[] {3});
                land.ground(12, 0, 5, 0, 0, 0);
                land.pass(1, air, 0);
                int brought = isCooled && air < 0 ? 0 : 300;
                Check.due("LAKE, air " + air, land.layerOf(12, 0, 1), 30 * Math.max(air, 0) - 200 + brought);
                Check.balanced("LAKE, air " + air, land);
            }
        }
    }
}
