/** Promise 4, in a month: 1 snow, 2 heat. */
public final class P04MonthHeatTest {
    public static void main(String[] args) {
        snow();
        cover();
        snowFirst();
        betweenLayers();
        fromBelow();
        lakeLeads();
        houses();
        houseInLake();
        Check.end("P04MonthHeatTest");
    }

    private static void snow() {
        Wakeground land = new Wakeground();
        land.pass(1, -1, 4);
        Check.due("snow", land.cellOf(0, 2), 4);
        land.pass(1, -50, 0);
        Check.due("no snow more", land.cellOf(24, 2), 4);
        land.pass(1, -1, 4);
        Check.due("more snow", land.cellOf(0, 2), 8);
        land.pass(1, -1, 4);
        Check.due("9 at most", land.cellOf(0, 2), 9);
        land.pass(1, 0, 9);
        Check.due("none at 0", land.cellOf(0, 2), 0);
        land.pass(1, -1, 9);
        land.pass(1, 30, 9);
        Check.due("none above 0", land.cellOf(12, 2), 0);
    }

    private static void cover() {
        int[] led = {30, 15, 10, 7};
        for (int moss = 0; moss < led.length; moss++) {
            Wakeground land = new Wakeground();
            land.moss(13, moss);
            land.pass(1, 20, 0);
            Check.due("moss " + moss, land.layerOf(13, 0, 1), -1000 + 30 * led[moss]);
            Check.due("its neighbour", land.layerOf(12, 0, 1), -1000 + 300);
            Check.balanced("moss " + moss, land);
        }
        Wakeground zero = new Wakeground();
        zero.pass(1, 0, 9);
        Check.due("air 0", zero.layerOf(0, 0, 1), -900);
    }

    /** The snow of the month lies when its heat is led. */
    private static void snowFirst() {
        int[] led = {10, 8, 7, 6, 6, 5, 5, 4, 4, 4};
        for (int snow = 0; snow < led.length; snow++) {
            Wakeground land = new Wakeground();
            land.pass(1, -15, snow);
            Check.due("snow " + snow, land.layerOf(5, 0, 1), -1000 - 5 * led[snow]);
            land.pass(1, 15, 9);
            int surface = (-1000 - 5 * led[snow]) / 100;
            Check.due("melted snow " + snow, land.layerOf(5, 0, 1),
                    -1000 - 5 * led[snow] + 10 * (15 - surface) - 20 * (surface + 10));
        }
    }

    /** All flows go by the temperatures ahead of them. */
    private static void betweenLayers() {
        Wakeground land = new Wakeground();
        land.ground(6, 0, 5, 0, 8000, 0);
        land.ground(6, 1, 5, 0, -199, 0);
        land.ground(6, 2, 0, 0, 1099, 0);
        land.ground(6, 3, 1, 1, 2000, 0);
        land.ground(6, 4, 9, 0, -5000, 0);
        int[] degrees = {30, -1, 10, 0, -50};
        for (int layer = 0; layer < 5; layer++) {
            Check.due("temperature " + layer, land.layerOf(6, layer, 0), degrees[layer]);
        }
        land.pass(1, 10, 0);
        Check.due("layer 0", land.layerOf(6, 0, 1), 8000 - 200 - 620);
        Check.due("layer 1", land.layerOf(6, 1, 1), -199 + 620 + 220);
        Check.due("layer 2", land.layerOf(6, 2, 1), 1099 - 220 - 200);
        Check.due("layer 3", land.layerOf(6, 3, 1), 2000 + 200 - 1000 );
        Check.due("layer 4", land.layerOf(6, 4, 1), -5000 + 1000 + 10);
        Check.balanced("between layers", land);
    }

    private static void fromBelow() {
        Wakeground land = new Wakeground();
        land.pass(1, -10, 0);
        Check.due("layer 4", land.layerOf(24, 4, 1), -990);
        // of the -9 degrees then, 20 go up; of the -9 degrees there then, 20 go down and 20 up
        land.pass(1, -10, 0);
        Check.due("layer 4 then", land.layerOf(24, 4, 1), -1000);
        Check.due("layer 3 then", land.layerOf(24, 3, 1), -980);
        land.pass(1, -10, 0);
        Check.due("layer 4 at last", land.layerOf(24, 4, 1), -970);
        Check.due("layer 3 at last", land.layerOf(24, 3, 1), -1020);
        Check.due("heat that came", land.balance(0, 1), -125000 + 25 * 30);
        Check.balanced("from below", land);
    }

    private static Wakeground withPond(int units) {
        Wakeground land = new Wakeground();
        land.ground(12, 0, 0, units, 6000, 0);
        land.ground(12, 1, 0, 0, 0, 0);
        land.pass(1, 0, 0);
        Check.due("pond", land.cellOf(12, 1), units);
        return land;
    }

    private static void lakeLeads() {
        Wakeground lake = withPond(3);
        // layer 0: 6000, 30 degrees; 300 go out, 600 go down, 3 units leave
        Check.due("layer 0", lake.layerOf(12, 0, 1), 2100);
        Check.due("layer 1", lake.layerOf(12, 1, 1), 600 - 200);
        lake.pass(1, -40, 5);
        Check.due("air of a LAKE", lake.layerOf(12, 0, 1), 2100 - 30 * 21 - 20 * (21 - 4));
        Check.due("snow on a LAKE", lake.cellOf(12, 2), 5);
        int surface = lake.layerOf(12, 0, 0);
        int below = lake.layerOf(12, 1, 0);
        int energy = lake.layerOf(12, 0, 1);
        lake.moss(12, 3);
        lake.pass(1, 25, 0);
        Check.due("a LAKE above 0", lake.layerOf(12, 0, 1),
                energy + 30 * (25 - surface) - 20 * (surface - below));
        Check.balanced("LAKE", lake);
        Wakeground pond = withPond(2);
        Check.due("layer 0 under 2 units", pond.layerOf(12, 0, 1), 6000 - 400 - 800 - 2000);
        pond.pass(1, -40, 5);
        Check.due("air of a pond", pond.layerOf(12, 0, 1), 2800 - 5 * 68 - 20 * (28 - 6));
        Check.balanced("pond", pond);
    }

    private static void houses() {
        Wakeground land = new Wakeground();
        land.house(7, 1, false);
        land.house(8, 4, true);
        land.pass(1, -10, 0);
        Check.due("a house", land.layerOf(7, 0, 1), -700);
        Check.due("cooled", land.layerOf(8, 0, 1), -1000);
        Check.due("none", land.layerOf(9, 0, 1), -1000);
        Check.due("heat that came", land.balance(0, 1), -125000 + 250 + 300);
        Check.balanced("houses", land);
        Wakeground zero = new Wakeground();
        zero.house(7, 1, false);
        zero.house(8, 4, true);
        zero.pass(1, 0, 0);
        Check.due("a house at 0", zero.layerOf(7, 0, 1), -600);
        Check.due("cooled at 0", zero.layerOf(8, 0, 1), -600);
        Check.due("heat that came at 0", zero.balance(0, 1), -125000 + 25 * 110 + 600);
        Wakeground edge = new Wakeground();
        edge.house(8, 4, true);
        edge.pass(1, -1, 0);
        Check.due("cooled at -1", edge.layerOf(8, 0, 1), -910);
    }

    /** The air of the month, not that of the LAKE, makes a pipe cool. */
    private static void houseInLake() {
        Wakeground land = new Wakeground();
        land.house(12, 1, true);
        land.ground(12, 0, 0, 9, 20000, 0);
        land.pass(1, 10, 0);
        Check.due("LAKE", land.cellOf(12, 1), 9);
        int energy = land.layerOf(12, 0, 1);
        int surface = land.layerOf(12, 0, 0);
        int below = land.layerOf(12, 1, 0);
        land.pass(1, -10, 0);
        Check.due("layer 0", land.layerOf(12, 0, 1),
                energy - 30 * surface - 20 * (surface - below));
        Check.balanced("house in a LAKE", land);
    }
}
