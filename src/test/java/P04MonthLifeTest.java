/** Promise 4, in a month: 6 carbon, 7 houses, 8 boreholes. */
public final class P04MonthLifeTest {
    public static void main(String[] args) {
        waking();
        wakingInEachLayer();
        sleeping();
        marshGas();
        lakeOfTheMonth();
        plants();
        tilting();
        tiltingByPile();
        readingAfterTheMonth();
        Check.end("P04MonthLifeTest");
    }

    /** Puts a layer 4 so that it has the energy after a month with layers of 0 degrees around it. */
    private static Wakeground evenLand(int cell, int energy, int carbon) {
        Wakeground land = new Wakeground();
        for (int layer = 0; layer < 4; layer++) {
            land.ground(cell, layer, 5, 0, 0, 1000);
        }
        land.ground(cell, 4, 0, 0, energy - 10, carbon);
        land.pass(1, 0, 0);
        return land;
    }

    private static void waking() {
        // 99 is 0 degrees, 100 is 1 degree
        Wakeground cold = evenLand(9, 99, 1000);
        Check.due("at 0 degrees", cold.layerOf(9, 4, 4), 1000);
        Check.due("air", cold.air(Wakeground.SMOKE), 0);
        Wakeground one = evenLand(9, 100, 1000);
        Check.due("at 1 degree", one.layerOf(9, 4, 4), 999);
        Check.due("SMOKE", one.air(Wakeground.SMOKE), 1);
        Check.due("MARSH", one.air(Wakeground.MARSH), 0);
        Check.balanced("waking", one);
        Wakeground less = evenLand(9, 100, 999);
        Check.due("rounded down", less.layerOf(9, 4, 4), 999);
        // above: 20 times 10 degrees go up, 10 come from below
        Wakeground many = evenLand(9, 1010, 777);
        Check.due("energy", many.layerOf(9, 4, 1), 810);
        Check.due("at 8 degrees", many.layerOf(9, 4, 4), 777 - 6);
        Check.due("SMOKE", many.air(Wakeground.SMOKE), 6);
        // the layer 3 has 200 of its 5000, which is no degree
        Check.due("layer 3", many.layerOf(9, 3, 4), 1000);
        Check.due("frozen layers", many.layerOf(10, 4, 4), 400);
    }

    /** A frozen layer wakes nothing and takes nothing, with the most carbon too. */
    private static void sleeping() {
        int[] energy = {-5000, -1000, -300};
        for (int i = 0; i < energy.length; i++) {
            Wakeground land = new Wakeground();
            land.ground(9, 2, 5, 3, energy[i], 1000);
            land.pass(1, -10, 0);
            Check.due("frozen", land.layerOf(9, 2, 0) < 0 ? 1 : 0, 1);
            Check.due("carbon at " + energy[i], land.layerOf(9, 2, 4), 1000);
            Check.due("SMOKE at " + energy[i], land.air(Wakeground.SMOKE), 0);
        }
    }

    private static void wakingInEachLayer() {
        for (int layer = 0; layer < 5; layer++) {
            Wakeground land = new Wakeground();
            land.ground(9, layer, 0, 0, 20000, 1000);
            land.pass(1, -10, 0);
            int degrees = land.layerOf(9, layer, 0);
            Check.due("warm layer " + layer, degrees > 100 ? 1 : 0, 1);
            Check.due("carbon of layer " + layer, land.layerOf(9, layer, 4), 1000 - degrees);
            Check.due("SMOKE", land.air(Wakeground.SMOKE), degrees);
        }
    }

    private static Wakeground withPond(int units) {
        Wakeground land = new Wakeground();
        land.ground(12, 4, 0, units, 25000, 1000);
        land.pass(1, -10, 0);
        Check.due("pond", land.cellOf(12, 1), units);
        return land;
    }

    /** The gas goes by what the cell is when it has melted and flowed. */
    private static void marshGas() {
        Wakeground lake = withPond(3);
        // 25000, 220 degrees: 4600 go up, 10 come, 3 units leave
        int woken = (25000 - 4600 + 10 - 3000) / 100;
        Check.due("layer 4", lake.layerOf(12, 4, 0), woken);
        Check.due("carbon", lake.layerOf(12, 4, 4), 1000 - woken);
        // the layer 3 has 3600 then, which is melting still
        Check.due("MARSH", lake.air(Wakeground.MARSH), woken);
        Check.due("SMOKE", lake.air(Wakeground.SMOKE), 0);
        Check.due("carbon that left", lake.balance(2, 2), woken);
        Check.balanced("MARSH", lake);
        Wakeground pond = withPond(2);
        int smoke = (25000 - 4800 + 10 - 2000) / 100;
        Check.due("SMOKE of a pond", pond.air(Wakeground.SMOKE), smoke);
        Check.due("MARSH of a pond", pond.air(Wakeground.MARSH), 0);
        Check.balanced("SMOKE", pond);
    }

    private static void lakeOfTheMonth() {
        Wakeground land = withPond(3);
        long marsh = land.air(Wakeground.MARSH);
        land.breach(12);
        land.pass(1, -10, 0);
        Check.due("MARSH of a drained lake", land.air(Wakeground.MARSH), marsh);
        Check.due("it is SMOKE", land.air(Wakeground.SMOKE) > 0 ? 1 : 0, 1);
    }

    private static void plants() {
        Wakeground land = new Wakeground();
        land.moss(0, 0);
        land.moss(1, 1);
        land.moss(2, 3);
        land.pass(1, 1, 0);
        int[] carbon = {400, 401, 403, 402};
        for (int cell = 0; cell < carbon.length; cell++) {
            Check.due("layer 0 of " + cell, land.layerOf(cell, 0, 4), carbon[cell]);
        }
        Check.due("layer 1", land.layerOf(2, 1, 4), 400);
        Check.due("SMOKE below 0", land.air(Wakeground.SMOKE), -(1 + 3 + 22 * 2));
        Check.due("carbon that left", land.balance(2, 2), -48);
        Check.due("carbon in the land", land.balance(2, 0), 50048);
        Check.balanced("plants", land);
        Wakeground zero = new Wakeground();
        zero.pass(24, 0, 0);
        Check.due("no plants at 0", zero.air(Wakeground.SMOKE), 0);
        zero.pass(1, -1, 0);
        Check.due("no plants below 0", zero.air(Wakeground.SMOKE), 0);
        Wakeground lake = withPond(3);
        int before = lake.layerOf(12, 0, 4);
        lake.pass(1, 5, 0);
        Check.due("no plants in a LAKE", lake.layerOf(12, 0, 4), before);
        Check.due("SMOKE", lake.air(Wakeground.SMOKE), -48);
        Wakeground pond = withPond(2);
        // else the layer 3 would melt, and make a LAKE of it
        pond.ground(12, 3, 5, 2, -1000, 400);
        before = pond.layerOf(12, 0, 4);
        pond.pass(1, 5, 0);
        Check.due("pond", pond.cellOf(12, 1), 2);
        Check.due("plants in a pond", pond.layerOf(12, 0, 4), before + 2);
    }

    private static void tilting() {
        int[] energy = {-11, -10};
        for (int i = 0; i < energy.length; i++) {
            Wakeground land = new Wakeground();
            land.house(5, 4, false);
            for (int layer = 0; layer < 4; layer++) {
                land.ground(5, layer, 5, 0, 0, 0);
            }
            land.ground(5, 4, 5, 0, energy[i], 0);
            land.pass(1, -10, 0);
            Check.due("energy", land.layerOf(5, 4, 1), energy[i] + 10);
            Check.due("temperature", land.layerOf(5, 4, 0), 0);
            Check.due("tilt at " + (energy[i] + 10), land.houseOf(0, 2), i);
        }
    }

    /** A house tilts by the layer of its pile alone, by 1 a month. */
    private static void tiltingByPile() {
        for (int thawed = 0; thawed < 5; thawed++) {
            Wakeground land = new Wakeground();
            for (int pile = 1; pile < 5; pile++) {
                land.house(2 + pile, pile, pile % 2 == 0);
                land.ground(2 + pile, thawed, 9, 9, 9000, 0);
            }
            land.house(20, 2, false);
            land.pass(3, -10, 0);
            for (int pile = 1; pile < 5; pile++) {
                Check.due("pile " + pile + ", thawed " + thawed, land.houseOf(pile - 1, 2),
                        pile == thawed ? 3 : 0);
            }
            Check.due("another cell", land.houseOf(4, 2), 0);
        }
    }

    private static void readingAfterTheMonth() {
        Wakeground land = new Wakeground();
        land.borehole(3, 0);
        land.pass(1, 20, 0);
        Check.due("layer 0", land.reading(0, 0, 0), -7);
        Check.due("layer 4", land.reading(0, 0, 4), -9);
        land.ground(3, 0, 5, 0, -5000, 0);
        Check.due("ground changes no reading", land.reading(0, 0, 0), -7);
    }
}
