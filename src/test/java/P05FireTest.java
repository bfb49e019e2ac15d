/** Promise 5: fire. */
public final class P05FireTest {
    public static void main(String[] args) {
        burning();
        refused();
        waterAndSnow();
        Check.end("P05FireTest");
    }

    private static void burning() {
        Wakeground land = new Wakeground();
        land.ground(0, 0, 5, 0, -1000, 401);
        land.moss(0, 3);
        Check.due("fire(0)", land.fire(0), 200);
        Check.due("carbon", land.layerOf(0, 0, 4), 201);
        Check.due("carbon below", land.layerOf(0, 1, 4), 400);
        Check.due("moss", land.cellOf(0, 3), 0);
        Check.due("SMOKE", land.air(Wakeground.SMOKE), 200);
        Check.due("MARSH", land.air(Wakeground.MARSH), 0);
        Check.due("fire(0) again", land.fire(0), 100);
        Check.due("carbon then", land.layerOf(0, 0, 4), 101);
        Check.due("SMOKE then", land.air(Wakeground.SMOKE), 300);
        Check.due("fire(24)", land.fire(24), 200);
        Check.due("another cell", land.cellOf(1, 3), 2);
        land.ground(1, 0, 5, 0, -1000, 1);
        Check.due("fire with 1", land.fire(1), 0);
        Check.due("1 stays", land.layerOf(1, 0, 4), 1);
        land.ground(1, 0, 5, 0, -1000, 0);
        Check.due("fire with 0", land.fire(1), 0);
        Check.due("carbon that left", land.balance(2, 2), 500);
        Check.balanced("fire", land);
    }

    private static void refused() {
        Wakeground land = new Wakeground();
        Check.noIndex("fire(-1)", land, () -> land.fire(-1));
        Check.noIndex("fire(25)", land, () -> land.fire(25));
        land.pass(1, -1, 1);
        Check.noState("snow", land, () -> land.fire(0));
        Check.noIndex("cell ahead of snow", land, () -> land.fire(25));
        land.pass(1, 0, 9);
        Check.due("without snow", land.fire(0), 200);
    }

    private static void waterAndSnow() {
        for (int units = 2; units <= 3; units++) {
            Wakeground land = new Wakeground();
            land.ground(12, 4, 0, units, 25000, 0);
            land.pass(1, -10, 0);
            Check.due("water", land.cellOf(12, 1), units);
            if (units == 3) {
                Check.noState("a LAKE", land, () -> land.fire(12));
                Check.due("its neighbour", land.fire(11), 200);
                land.breach(12);
            }
            Check.due("no LAKE", land.fire(12), 200);
        }
    }
}
