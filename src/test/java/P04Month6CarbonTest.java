/** Promise 4, in a month, 6: carbon wakes, and plants take it. */
public final class P04Month6CarbonTest {
    public static void main(String[] args) {
        aboveZero();
        roundedDown();
        frozen();
        eachCellAndLayer();
        marshGas();
        lakeThatComes();
        lakeThatFlows();
        lakeThatCracks();
        plantsByAir();
        plantsByMoss();
        plantsInWater();
        plantsOfTheMonth();
        thenPlants();
        belowZeroInTheAir();
        sixHundredMonths();
        Check.end("P04Month6CarbonTest");
    }

    /** Lets a month pass over a layer 2 that keeps its energy, without units. */
    private static void wakes(int energy, int carbon, int woken) {
        Wakeground land = Lands.even(9, 0, energy);
        land.ground(9, 2, 0, 0, energy, carbon);
        land.pass(1, 0, 0);
        String what = "energy " + energy + ", carbon " + carbon;
        Check.due(what + ": energy", land.layerOf(9, 2, 1), energy);
        Check.due(what + ": carbon", land.layerOf(9, 2, 4), carbon - woken);
        Check.due(what + ": SMOKE", land.air(Wakeground.SMOKE), woken);
        Check.due(what + ": MARSH", land.air(Wakeground.MARSH), 0);
        Check.balanced(what, land);
    }

    /** "if its temperature is above 0" */
    private static void aboveZero() {
        wakes(-100, 1000, 0);
        wakes(0, 1000, 0);
        wakes(99, 1000, 0);
        wakes(100, 1000, 1);
        wakes(101, 1000, 1);
        wakes(199, 1000, 1);
        wakes(200, 1000, 2);
    }

    /** "this temperature times that, divided by 1000, rounded down, is woken, at most all" */
    private static void roundedDown() {
        wakes(100, 999, 0);
        wakes(200, 499, 0);
        wakes(200, 500, 1);
        wakes(200, 501, 1);
        wakes(200, 999, 1);
        wakes(30000, 1000, 300);
        wakes(30000, 999, 299);
        wakes(30000, 4, 1);
        wakes(30000, 3, 0);
        wakes(30000, 1, 0);
        wakes(30000, 0, 0);
    }

    private static void frozen() {
        int[] energy = {-5000, -2000, -1000, -500};
        for (int i = 0; i < energy.length; i++) {
            Wakeground land = new Wakeground();
            land.ground(9, 2, 5, 3, energy[i], 1000);
            land.pass(1, -10, 0);
            Check.so("frozen", land.layerOf(9, 2, 0) < 0);
            Check.due("carbon at " + energy[i], land.layerOf(9, 2, 4), 1000);
            Check.due("SMOKE at " + energy[i], land.air(Wakeground.SMOKE), 0);
        }
    }

    private static void eachCellAndLayer() {
        for (int cell = 0; cell < 25; cell++) {
            for (int layer = 0; layer < 5; layer++) {
                Wakeground land = new Wakeground();
                land.ground(cell, layer, 0, 0, 20000, 1000);
                land.pass(1, -10, 0);
                int degrees = land.layerOf(cell, layer, 0);
                String what = "cell " + cell + ", layer " + layer;
                Check.so(what + " is warm", degrees > 100);
                Check.due(what + ": carbon", land.layerOf(cell, layer, 4), 1000 - degrees);
                Check.due(what + ": SMOKE", land.air(Wakeground.SMOKE), degrees);
            }
        }
    }

    /** Warms a cell by 1 degree, in whose layer 2 is carbon of which 1 wakes. */
    private static void warm(Wakeground land, int cell) {
        for (int layer = 0; layer < 5; layer++) {
            land.ground(cell, layer, 0, 0, 100, layer == 2 ? 1000 : 0);
        }
    }

    private static void gases(String what, Wakeground land, int smoke, int marsh) {
        Check.due(what + ": SMOKE", land.air(Wakeground.SMOKE), smoke);
        Check.due(what + ": MARSH", land.air(Wakeground.MARSH), marsh);
        Check.due(what + ": carbon that left", land.balance(2, 2), smoke + marsh);
        Check.balanced(what, land);
    }

    /** "as MARSH gas from a LAKE, otherwise as SMOKE" */
    private static void marshGas() {
        for (int units = 1; units <= 5; units++) {
            Wakeground land = Lands.pond(12, units);
            warm(land, 12);
            land.pass(1, 0, 0);
            gases(units + " units", land, units < 3 ? 1 : 0, units < 3 ? 0 : 1);
            Check.due("carbon", land.layerOf(12, 2, 4), 999);
        }
        Wakeground drained = Lands.pond(12, 3);
        warm(drained, 12);
        drained.breach(12);
        drained.pass(1, 0, 0);
        gases("drained", drained, 1, 0);
        Wakeground beside = Lands.pond(12, 5);
        warm(beside, 11);
        beside.pass(1, 0, 0);
        gases("beside a LAKE", beside, 1, 0);
    }

    /** A LAKE that came by what melted in the month gives MARSH gas in it. */
    private static void lakeThatComes() {
        for (int units = 2; units <= 4; units++) {
            Wakeground land = new Wakeground();
            warm(land, 12);
            land.ground(12, 4, 0, units, 1000 * units, 0);
            land.pass(1, 0, 0);
            Check.due("water", land.cellOf(12, 1), units);
            gases("came, " + units, land, units < 3 ? 1 : 0, units < 3 ? 0 : 1);
        }
    }

    /** So does one that came by flowing; one that flowed away gives SMOKE. */
    private static void lakeThatFlows() {
        for (int by = 5; by <= 7; by++) {
            Wakeground land = new Wakeground();
            Lands.sink(land, 12, by);
            Lands.melt(land, 7, 5);
            warm(land, 12);
            land.pass(1, 0, 0);
            int flowed = by / 2;
            Check.due("flowed", land.cellOf(12, 1), flowed);
            gases("flowed there, " + flowed, land, flowed < 3 ? 1 : 0, flowed < 3 ? 0 : 1);
        }
        for (int units = 3; units <= 5; units++) {
            Wakeground land = new Wakeground();
            Lands.sink(land, 12, 4);
            Lands.ponds(land, new int[] {24}, new int[] {1});
            warm(land, 7);
            land.ground(7, 4, 0, units, 1000 * units, 0);
            land.pass(1, 0, 0);
            Check.due("left", land.cellOf(7, 1), units - 2);
            gases("flowed away, " + units, land, units - 2 < 3 ? 1 : 0, units - 2 < 3 ? 0 : 1);
        }
    }

    /** A LAKE whose third unit went into a wedge in the month gives SMOKE. */
    private static void lakeThatCracks() {
        for (int units = 2; units <= 4; units++) {
            Wakeground land = Lands.pond(12, units);
            land.ground(12, 1, 5, 2, -1300, 0);
            land.ground(12, 3, 0, 0, 30000, 1000);
            land.ground(12, 4, 5, 0, -1000, 0);
            land.pass(1, -20, 0);
            Check.due("left", land.cellOf(12, 1), units - 1);
            // 300 degrees between layers of -10
            int woken = 300 - 2 * 20 * 310 / 100;
            gases("cracked, " + units, land, units < 4 ? woken : 0, units < 4 ? 0 : woken);
        }
    }

    /** "Then, if the air is above 0" */
    private static void plantsByAir() {
        int[] air = {-50, -1, 0, 1, 2, 30};
        int[] took = {0, 0, 0, 2, 2, 2};
        for (int i = 0; i < air.length; i++) {
            Wakeground land = new Wakeground();
            land.pass(1, air[i], 0);
            for (int cell = 0; cell < 25; cell++) {
                Check.due("air " + air[i] + ", cell " + cell, land.layerOf(cell, 0, 4), 400 + took[i]);
            }
            Check.due("layer 1", land.layerOf(7, 1, 4), 400);
            gases("air " + air[i], land, -25 * took[i], 0);
        }
    }

    /** "its plants take as much as its moss" */
    private static void plantsByMoss() {
        for (int moss = 0; moss <= 3; moss++) {
            Wakeground land = new Wakeground();
            land.moss(8, moss);
            land.pass(1, 1, 0);
            Check.due("moss " + moss, land.layerOf(8, 0, 4), 400 + moss);
            Check.due("moss beside", land.layerOf(9, 0, 4), 402);
            gases("moss " + moss, land, -48 - moss, 0);
            Check.due("it stays", land.cellOf(8, 3), moss);
        }
        Wakeground burnt = new Wakeground();
        burnt.fire(8);
        burnt.pass(3, 1, 0);
        Check.due("burnt", burnt.layerOf(8, 0, 4), 200);
    }

    /** "and the cell is no LAKE" */
    private static void plantsInWater() {
        for (int units = 1; units <= 4; units++) {
            Wakeground land = Lands.pond(12, units);
            land.pass(1, 1, 0);
            int took = units < 3 ? 2 : 0;
            Check.due(units + " units", land.layerOf(12, 0, 4), 400 + took);
            gases(units + " units", land, -48 - took, 0);
        }
    }

    /** The LAKE that counts is that of the month's water. */
    private static void plantsOfTheMonth() {
        for (int units = 2; units <= 3; units++) {
            Wakeground land = new Wakeground();
            Lands.melt(land, 12, units);
            land.pass(1, 1, 0);
            Check.due("water", land.cellOf(12, 1), units);
            Check.due("came, " + units, land.layerOf(12, 0, 4), units < 3 ? 402 : 400);
        }
        Wakeground drained = Lands.pond(12, 3);
        drained.breach(12);
        drained.pass(1, 1, 0);
        Check.due("drained", drained.layerOf(12, 0, 4), 402);
    }

    /** "Then": what plants take does not wake in the same month. */
    private static void thenPlants() {
        Wakeground land = Lands.even(9, 0, 100);
        land.ground(9, 0, 0, 0, 100, 999);
        land.moss(9, 3);
        land.pass(1, 1, 0);
        Check.due("energy", land.layerOf(9, 0, 1), 100);
        Check.due("carbon", land.layerOf(9, 0, 4), 999 + 3);
        gases("then", land, -3 - 48, 0);
        land.pass(1, 1, 0);
        Check.due("carbon then", land.layerOf(9, 0, 4), 1002 - 1 + 3);
    }

    /** "carbon, 0 to 1000000": plants bring it beyond what can be told, but not farther than this. */
    private static void sixHundredMonths() {
        Wakeground land = new Wakeground();
        land.ground(8, 0, 9, 9, -5000, 1000);
        land.moss(8, 3);
        for (int year = 1; year <= 25; year++) {
            land.pass(24, 1, 0);
            Check.due("carbon after " + 24 * year, land.layerOf(8, 0, 4), 1000 + 72 * year);
        }
        Check.so("SMOKE is below 0 by that, and by what others took", land.air(Wakeground.SMOKE) < -1800);
        Check.balanced("600 months", land);
    }

    /** "from the SMOKE .. which may come below 0 in the air" */
    private static void belowZeroInTheAir() {
        Wakeground land = new Wakeground();
        land.ground(0, 0, 5, 0, -1000, 52);
        Check.due("fire", land.fire(0), 26);
        for (int cell = 0; cell < 25; cell++) {
            land.moss(cell, cell < 13 ? 1 : 0);
        }
        int[] smoke = {13, 0, -13, -26};
        for (int i = 0; i < smoke.length; i++) {
            land.pass(1, 1, 0);
            gases("month " + i, land, smoke[i], 0);
        }
    }
}
