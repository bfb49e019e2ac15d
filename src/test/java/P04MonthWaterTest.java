/** Promise 4, in a month: 3 ice that melts, 4 ponds that flow, 5 cracks. */
public final class P04MonthWaterTest {
    public static void main(String[] args) {
        melting();
        meltingEdges();
        meltingManyLayers();
        flowing();
        flowingFromEachCell();
        flowingChain();
        flowingAtMostItsWater();
        flowingToLowestCell();
        notFlowingByOne();
        cracking();
        crackingEdges();
        crackFills();
        fullWedge();
        Check.end("P04MonthWaterTest");
    }

    private static void layer(Wakeground land, String what, int cell, int layer, int energy, int pore, int excess) {
        Check.due(what + ": energy", land.layerOf(cell, layer, 1), energy);
        Check.due(what + ": pore", land.layerOf(cell, layer, 2), pore);
        Check.due(what + ": excess", land.layerOf(cell, layer, 3), excess);
    }

    private static void cell(Wakeground land, String what, int cell, int height, int water) {
        Check.due(what + ": height", land.cellOf(cell, 0), height);
        Check.due(what + ": water", land.cellOf(cell, 1), water);
    }

    private static void melting() {
        Wakeground land = new Wakeground();
        land.ground(12, 2, 2, 5, 6999, 0);
        land.pass(1, -10, 0);
        layer(land, "in part", 12, 2, 6599 - 4000, 2, 1);
        cell(land, "in part", 12, 96, 4);
        Check.balanced("melting", land);
        Check.due("heat of the pond is of the land", land.balance(0, 0),
                -125000 + 7999 + 250);
    }

    /** Only whole units leave, and only above the pore units. */
    private static void meltingEdges() {
        int[] energy = {3399, 3400, 4399, 4400};
        int[] leave = {0, 1, 1, 2};
        for (int i = 0; i < energy.length; i++) {
            Wakeground land = new Wakeground();
            land.ground(3, 2, 2, 9, energy[i], 0);
            land.pass(1, -10, 0);
            layer(land, "energy " + energy[i], 3, 2, energy[i] - 400 - 1000 * leave[i], 2, 9 - leave[i]);
            cell(land, "energy " + energy[i], 3, 100 - leave[i], leave[i]);
        }
        Wakeground all = new Wakeground();
        all.ground(3, 2, 0, 3, 30000, 0);
        all.pass(1, -10, 0);
        layer(all, "all", 3, 2, 30000 - 2 * 20 * 280 - 3000, 0, 0);
        cell(all, "all", 3, 97, 3);
        Wakeground pores = new Wakeground();
        pores.ground(3, 2, 9, 0, 30000, 0);
        pores.pass(1, -10, 0);
        cell(pores, "pores", 3, 100, 0);
        Check.due("pores melted", pores.layerOf(3, 2, 5), 9);
    }

    private static void meltingManyLayers() {
        Wakeground land = new Wakeground();
        for (int layer = 0; layer < 5; layer++) {
            land.ground(20, layer, 0, layer + 1, 30000, 0);
        }
        land.pass(1, 0, 0);
        cell(land, "many layers", 20, 85, 15);
        for (int layer = 0; layer < 5; layer++) {
            Check.due("excess " + layer, land.layerOf(20, layer, 3), 0);
        }
        Check.balanced("many layers", land);
    }

    /** Sinks a cell, and lets its pond go. */
    private static void sink(Wakeground land, int cell, int units) {
        int height = land.cellOf(cell, 0);
        land.ground(cell, 4, 0, units, 25000, 0);
        land.pass(1, -10, 0);
        Check.due("breach", land.breach(cell), units);
        cell(land, "sunk", cell, height - units, 0);
        land.ground(cell, 3, 5, 2, -1000, 400);
        land.ground(cell, 4, 5, 0, -1000, 400);
    }

    private static void flowingFromEachCell() {
        for (int cell = 0; cell < 25; cell++) {
            Wakeground land = new Wakeground();
            int lower = land.neighbour(cell, 1);
            sink(land, lower, 4);
            fill(land, cell, 9);
            land.pass(1, -10, 0);
            cell(land, "from " + cell, cell, 91, 7);
            cell(land, "into " + lower, lower, 96, 2);
        }
    }

    private static void fill(Wakeground land, int cell, int units) {
        land.ground(cell, 4, 0, units, 25000, 0);
    }

    private static void flowing() {
        Wakeground land = new Wakeground();
        sink(land, 12, 9);
        fill(land, 7, 9);
        land.pass(1, -10, 0);
        cell(land, "from", 7, 91, 5);
        cell(land, "into", 12, 91, 4);
        land.pass(1, -10, 0);
        cell(land, "from, level", 7, 91, 5);
        cell(land, "into, level", 12, 91, 4);
        Check.balanced("flowing", land);
    }

    /** A cell lets flow what came from a cell before it in the same month; not from one behind it. */
    private static void flowingChain() {
        Wakeground land = new Wakeground();
        sink(land, 7, 9);
        sink(land, 12, 9);
        sink(land, 12, 9);
        Check.due("height", land.cellOf(12, 0), 82);
        fill(land, 2, 9);
        land.pass(1, -10, 0);
        cell(land, "first", 2, 91, 5);
        cell(land, "between", 7, 91, 0);
        cell(land, "last", 12, 82, 4);
        Check.balanced("chain", land);
        Wakeground back = new Wakeground();
        sink(back, 17, 9);
        sink(back, 12, 9);
        sink(back, 12, 9);
        fill(back, 22, 9);
        back.pass(1, -10, 0);
        cell(back, "first, back", 22, 91, 5);
        cell(back, "between, back", 17, 91, 4);
        cell(back, "last, back", 12, 82, 0);
    }

    private static void flowingAtMostItsWater() {
        Wakeground land = new Wakeground();
        sink(land, 12, 9);
        fill(land, 13, 2);
        land.pass(1, -10, 0);
        cell(land, "from", 13, 98, 0);
        cell(land, "into", 12, 91, 2);
    }

    private static void flowingToLowestCell() {
        int[] around = {7, 11, 13, 17};
        for (int i = 0; i < 3; i++) {
            Wakeground land = new Wakeground();
            for (int j = i; j < around.length; j++) {
                sink(land, around[j], 4);
            }
            fill(land, 12, 9);
            land.pass(1, -10, 0);
            cell(land, "of several", 12, 91, 7);
            cell(land, "the lowest cell", around[i], 96, 2);
            cell(land, "not the next", around[i + 1], 96, 0);
        }
        Wakeground land = new Wakeground();
        sink(land, 7, 4);
        sink(land, 17, 5);
        fill(land, 12, 9);
        land.pass(1, -10, 0);
        cell(land, "the lowest level", 17, 95, 2);
        cell(land, "not the lowest cell", 7, 96, 0);
    }

    private static void notFlowingByOne() {
        Wakeground land = new Wakeground();
        sink(land, 12, 1);
        fill(land, 7, 9);
        land.pass(1, -10, 0);
        cell(land, "by 1", 7, 91, 9);
        Wakeground two = new Wakeground();
        sink(two, 12, 2);
        fill(two, 7, 9);
        two.pass(1, -10, 0);
        cell(two, "by 2", 7, 91, 8);
        cell(two, "into", 12, 98, 1);
        Wakeground row = new Wakeground();
        sink(row, 5, 9);
        fill(row, 4, 9);
        row.pass(1, -10, 0);
        cell(row, "4 and 5 are not side by side", 4, 91, 9);
    }

    private static int wedges(Wakeground land) {
        int sum = 0;
        for (int cell = 0; cell < 25; cell++) {
            sum += land.cellOf(cell, 4);
        }
        return sum;
    }

    private static void cracking() {
        Wakeground land = new Wakeground();
        land.pass(1, -20, 0);
        Check.due("of several the lowest one", land.cellOf(0, 4), 1);
        Check.due("only one", wedges(land), 1);
        Check.due("height", land.cellOf(0, 0), 100);
        Check.due("excess", land.layerOf(0, 1, 3), 2);
        land.ground(7, 1, 5, 2, -1300, 400);
        land.ground(17, 1, 5, 2, -1300, 400);
        land.pass(1, -50, 0);
        Check.due("the coldest", land.cellOf(7, 4), 1);
        Check.due("two in all", wedges(land), 2);
        for (int cell = 0; cell < 25; cell++) {
            Wakeground one = new Wakeground();
            one.ground(cell, 1, 5, 2, -1300, 400);
            one.pass(1, -20, 0);
            Check.due("the coldest one is " + cell, one.cellOf(cell, 4), 1);
        }
        Wakeground degree = new Wakeground();
        degree.ground(7, 1, 5, 2, -1090, 400);
        degree.pass(1, -20, 0);
        Check.due("alike by its degrees", degree.cellOf(0, 4), 1);
        Check.due("not by its energy", degree.cellOf(7, 4), 0);
        Wakeground other = new Wakeground();
        other.ground(9, 3, 5, 2, -5000, 400);
        other.ground(9, 4, 5, 0, -5000, 400);
        other.ground(10, 1, 5, 2, -1300, 400);
        other.pass(1, -20, 0);
        Check.due("by layer 1", other.cellOf(10, 4), 1);
        Check.balanced("cracking", other);
    }

    private static void crackingEdges() {
        Wakeground warm = new Wakeground();
        warm.pass(24, -19, 0);
        Check.due("air -19", wedges(warm), 0);
        // a layer 1 of -9 degrees loses 40 to the layers around it, then looks whether it cracks
        int[] energy = {-959, -960};
        for (int i = 0; i < energy.length; i++) {
            Wakeground land = new Wakeground();
            for (int cell = 0; cell < 25; cell++) {
                land.ground(cell, 1, 5, 2, energy[i], 400);
            }
            land.pass(1, -20, 0);
            Check.due("energy", land.layerOf(24, 1, 1), energy[i] - 40);
            Check.due("cracks at " + (energy[i] - 40), wedges(land), i);
        }
    }

    /** A unit that came into the pond in the same month goes into the wedge. */
    private static void crackFills() {
        Wakeground land = new Wakeground();
        fill(land, 0, 1);
        land.pass(1, -20, 0);
        cell(land, "filled", 0, 100, 0);
        Check.due("wedges", land.cellOf(0, 4), 1);
        layer(land, "filled", 0, 1, 0, 5, 3);
        Check.balanced("filled", land);
        Wakeground more = new Wakeground();
        fill(more, 0, 9);
        more.pass(1, -19, 0);
        more.ground(0, 1, 5, 8, -5000, 400);
        more.pass(1, -20, 0);
        cell(more, "one unit", 0, 92, 8);
        layer(more, "one unit", 0, 1, -5000 + 20 * 80 + 1000, 5, 9);
        Check.balanced("one unit", more);
    }

    private static void fullWedge() {
        Wakeground land = new Wakeground();
        land.ground(0, 1, 5, 9, -1000, 400);
        fill(land, 0, 1);
        land.pass(1, -20, 0);
        cell(land, "full", 0, 99, 1);
        Check.due("wedges", land.cellOf(0, 4), 1);
        layer(land, "full", 0, 1, -1000, 5, 9);
        Check.balanced("full", land);
    }
}
