/** Promise 4, in a month, 5: the coldest cell cracks. */
public final class P04Month5CrackTest {
    public static void main(String[] args) {
        airOfMinusTwenty();
        layerOfMinusTen();
        coldest();
        ofSeveralTheLowestOne();
        coldestByDegrees();
        byLayerOne();
        eachMonth();
        ifItHasWater();
        belowNine();
        onlyWhereItCracks();
        waterOfTheMonth();
        Check.end("P04Month5CrackTest");
    }

    private static int wedges(Wakeground land) {
        int sum = 0;
        for (int cell = 0; cell < 25; cell++) {
            sum += land.cellOf(cell, 4);
        }
        return sum;
    }

    /** "If the air is -20 or below" */
    private static void airOfMinusTwenty() {
        int[] air = {-10, -18, -19, -20, -21, -50};
        int[] cracks = {0, 0, 0, 1, 1, 1};
        for (int i = 0; i < air.length; i++) {
            Wakeground land = new Wakeground();
            land.pass(1, air[i], 0);
            Check.due("wedges at " + air[i], land.cellOf(0, 4), cracks[i]);
            Check.due("in all", wedges(land), cracks[i]);
        }
        Wakeground land = new Wakeground();
        land.pass(24, -19, 0);
        Check.due("24 months of -19", wedges(land), 0);
    }

    /** "if that is -10 or below" */
    private static void layerOfMinusTen() {
        // of -9 degrees 40 go into the layers around, of -8 degrees 80; into -11 degrees come 40
        int[] energy = {-800, -959, -960, -1000, -1139, -1140};
        int[] then = {-8, -9, -10, -10, -10, -11};
        for (int i = 0; i < energy.length; i++) {
            Wakeground land = new Wakeground();
            for (int cell = 0; cell < 25; cell++) {
                land.ground(cell, 1, 5, 2, energy[i], 400);
            }
            land.pass(1, -20, 0);
            Check.due("temperature", land.layerOf(0, 1, 0), then[i]);
            Check.due("cracks at " + then[i], land.cellOf(0, 4), then[i] <= -10 ? 1 : 0);
            Check.due("in all", wedges(land), then[i] <= -10 ? 1 : 0);
        }
    }

    /** "the cell whose layer 1 is coldest" */
    private static void coldest() {
        for (int cell = 0; cell < 25; cell++) {
            Wakeground land = new Wakeground();
            land.ground(cell, 1, 5, 2, -1140, 400);
            land.pass(1, -20, 0);
            Check.due("by a degree", land.layerOf(cell, 1, 0), -11);
            Check.due("the coldest is " + cell, land.cellOf(cell, 4), 1);
            Check.due("in all", wedges(land), 1);
        }
        Wakeground land = new Wakeground();
        for (int cell = 0; cell < 25; cell++) {
            land.ground(cell, 1, 5, 2, cell == 17 ? -1000 : -500, 400);
        }
        land.pass(1, -20, 0);
        Check.due("the only one that is cold", land.cellOf(17, 4), 1);
    }

    /** "of several the lowest one" */
    private static void ofSeveralTheLowestOne() {
        for (int cell = 0; cell < 24; cell++) {
            Wakeground land = new Wakeground();
            for (int other = cell; other < 25; other++) {
                land.ground(other, 1, 5, 2, -1300, 400);
            }
            land.pass(1, -50, 0);
            Check.due("the lowest is " + cell, land.cellOf(cell, 4), 1);
            Check.due("in all", wedges(land), 1);
        }
    }

    /** Layers of as many degrees are as cold, whatever is beyond whole degrees. */
    private static void coldestByDegrees() {
        int[] energy = {-1000, -1099, -1140};
        int[] cracked = {0, 0, 7};
        for (int i = 0; i < energy.length; i++) {
            Wakeground land = new Wakeground();
            land.ground(7, 1, 5, 2, energy[i], 400);
            land.pass(1, -20, 0);
            Check.due("energy " + energy[i], land.cellOf(cracked[i], 4), 1);
            Check.due("in all", wedges(land), 1);
        }
    }

    /** A layer 0 or 2 of -50 degrees cools the layer 1 too, but to -18; the other cell has -19. */
    private static void byLayerOne() {
        for (int layer = 0; layer < 5; layer++) {
            Wakeground land = new Wakeground();
            land.ground(9, layer, 5, 2, -5000, 400);
            land.ground(10, 1, 5, 2, -2500, 400);
            land.pass(1, -20, 0);
            Check.due("cold in layer " + layer, land.cellOf(layer == 1 ? 9 : 10, 4), 1);
            Check.due("in all", wedges(land), 1);
        }
    }

    /** "its wedges are 1 more", in each month */
    private static void eachMonth() {
        Wakeground land = new Wakeground();
        for (int month = 1; month <= 6; month++) {
            land.pass(1, -40, 0);
            Check.due("wedges after " + month, wedges(land), month);
        }
        Wakeground together = new Wakeground();
        together.pass(6, -40, 0);
        Check.due("wedges together", wedges(together), 6);
    }

    /** A land whose cell 3 cracks in the next month, with -180 or -1180 of energy in its layer 1 then. */
    private static Wakeground cracking(int units, int excess) {
        Wakeground land = Lands.pond(3, units);
        land.ground(3, 1, 5, excess, -1300, 400);
        return land;
    }

    private static void cracked(String what, Wakeground land, int height, int water, int excess, int energy) {
        Check.due(what + ": wedges", land.cellOf(3, 4), 1);
        Check.due(what + ": height", land.cellOf(3, 0), height);
        Check.due(what + ": water", land.cellOf(3, 1), water);
        Check.due(what + ": excess", land.layerOf(3, 1, 3), excess);
        Check.due(what + ": pore", land.layerOf(3, 1, 2), 5);
        Check.due(what + ": energy", land.layerOf(3, 1, 1), energy);
        Check.balanced(what, land);
    }

    /** "If it has water", "the excess and the height are 1 more, and the energy of the layer is 1000 more" */
    private static void ifItHasWater() {
        for (int units = 0; units <= 4; units++) {
            Wakeground land = cracking(units, 2);
            land.pass(1, -20, 0);
            int into = units > 0 ? 1 : 0;
            cracked(units + " units", land, 100 - units + into, units - into, 2 + into, -1180 + 1000 * into);
        }
    }

    /** "and the excess of its layer 1 is below 9" */
    private static void belowNine() {
        for (int excess = 0; excess <= 9; excess++) {
            Wakeground land = cracking(2, excess);
            land.pass(1, -20, 0);
            int into = excess < 9 ? 1 : 0;
            cracked("excess " + excess, land, 98 + into, 2 - into, excess + into, -1180 + 1000 * into);
        }
        Wakeground dry = cracking(0, 9);
        dry.pass(1, -20, 0);
        cracked("neither", dry, 100, 0, 9, -1180);
    }

    private static void onlyWhereItCracks() {
        Wakeground land = new Wakeground();
        Lands.ponds(land, new int[] {3, 20}, new int[] {2, 2});
        land.ground(20, 1, 5, 2, -1300, 400);
        land.pass(1, -20, 0);
        Check.due("another cell's water", land.cellOf(3, 1), 2);
        Check.due("another cell's excess", land.layerOf(3, 1, 3), 2);
        Check.due("another cell's wedges", land.cellOf(3, 4), 0);
        Check.due("its own water", land.cellOf(20, 1), 1);
        land.pass(1, -19, 0);
        Check.due("no water in a month without a crack", land.cellOf(20, 1), 1);
    }

    /** A unit that came into the pond in the same month, by melting or by flowing, goes into the wedge. */
    private static void waterOfTheMonth() {
        Wakeground melting = cracking(0, 2);
        Lands.melt(melting, 3, 1);
        melting.pass(1, -20, 0);
        cracked("melting", melting, 100, 0, 3, -180);
        Wakeground flowing = new Wakeground();
        Lands.sink(flowing, 3, 2);
        flowing.ground(3, 1, 5, 2, -1300, 400);
        Lands.melt(flowing, 2, 1);
        flowing.pass(1, -20, 0);
        cracked("flowing", flowing, 99, 0, 3, -180);
        Wakeground away = new Wakeground();
        Lands.sink(away, 4, 2);
        away.ground(3, 1, 5, 2, -1300, 400);
        Lands.melt(away, 3, 1);
        away.pass(1, -20, 0);
        cracked("flowed away", away, 99, 0, 2, -1180);
    }
}
