/** Promise 2: ground. */
public final class P02GroundTest {
    public static void main(String[] args) {
        told();
        edges();
        refused();
        Check.end("P02GroundTest");
    }

    private static void told() {
        Wakeground land = new Wakeground();
        land.ground(7, 2, 4, 1, -250, 123);
        int[] due = {-2, -250, 4, 1, 123, 0};
        for (int what = 0; what < 6; what++) {
            Check.due("layerOf(7, 2, " + what + ")", land.layerOf(7, 2, what), due[what]);
        }
        Check.due("the layer above", land.layerOf(7, 1, 1), -1000);
        Check.due("the layer below", land.layerOf(7, 3, 1), -1000);
        Check.due("the same layer of another cell", land.layerOf(8, 2, 1), -1000);
        Check.due("height", land.cellOf(7, 0), 100);
        Check.due("water", land.cellOf(7, 1), 0);
        Check.due("heat brought", land.balance(0, 1), -125000 + 750);
        Check.due("water brought", land.balance(1, 1), 800 - 3);
        Check.due("carbon brought", land.balance(2, 1), 50000 - 277);
        Check.balanced("told", land);
        land.ground(7, 2, 5, 3, -1000, 400);
        Check.alike("told back", land, new Wakeground());
    }

    private static void edges() {
        Wakeground land = new Wakeground();
        land.ground(0, 0, 0, 0, -5000, 0);
        Check.due("energy -5000", land.layerOf(0, 0, 0), -50);
        land.ground(24, 4, 9, 9, 30000, 1000);
        Check.due("energy 30000", land.layerOf(24, 4, 0), 120);
        Check.due("pore 9", land.layerOf(24, 4, 2), 9);
        Check.due("excess 9", land.layerOf(24, 4, 3), 9);
        Check.due("carbon 1000", land.layerOf(24, 4, 4), 1000);
        Check.due("heat brought", land.balance(0, 1), -125000 - 4000 + 31000);
        Check.due("water brought", land.balance(1, 1), 800 - 5 + 13);
        Check.due("carbon brought", land.balance(2, 1), 50000 - 400 + 600);
        Check.balanced("edges", land);
    }

    private static void refused() {
        Wakeground land = new Wakeground();
        Check.noIndex("cell -1", land, () -> land.ground(-1, 0, 0, 0, 0, 0));
        Check.noIndex("cell 25", land, () -> land.ground(25, 0, 0, 0, 0, 0));
        Check.noIndex("layer -1", land, () -> land.ground(0, -1, 0, 0, 0, 0));
        Check.noIndex("layer 5", land, () -> land.ground(0, 5, 0, 0, 0, 0));
        Check.noIndex("the largest cell", land, () -> land.ground(Integer.MAX_VALUE, 0, 0, 0, 0, 0));
        Check.noIndex("the smallest layer", land, () -> land.ground(0, Integer.MIN_VALUE, 0, 0, 0, 0));
        Check.noArgument("pore -1", land, () -> land.ground(0, 0, -1, 0, 0, 0));
        Check.noArgument("pore 10", land, () -> land.ground(0, 0, 10, 0, 0, 0));
        Check.noArgument("excess -1", land, () -> land.ground(0, 0, 0, -1, 0, 0));
        Check.noArgument("excess 10", land, () -> land.ground(0, 0, 0, 10, 0, 0));
        Check.noArgument("energy -5001", land, () -> land.ground(0, 0, 0, 0, -5001, 0));
        Check.noArgument("energy 30001", land, () -> land.ground(0, 0, 0, 0, 30001, 0));
        Check.noArgument("carbon -1", land, () -> land.ground(0, 0, 0, 0, 0, -1));
        Check.noArgument("carbon 1001", land, () -> land.ground(0, 0, 0, 0, 0, 1001));
        Check.noIndex("cell ahead of pore", land, () -> land.ground(25, 0, 10, 0, 0, 0));
        Check.noIndex("layer ahead of carbon", land, () -> land.ground(0, 5, 0, 0, 0, 1001));
    }
}
