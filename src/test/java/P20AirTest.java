/** Promise 20: air. */
public final class P20AirTest {
    public static void main(String[] args) {
        atFirst();
        apart();
        belowZero();
        gases();
        Check.end("P20AirTest");
    }

    private static void air(String what, Wakeground land, long smoke, long marsh) {
        Check.due(what + ": SMOKE", land.air(Wakeground.SMOKE), smoke);
        Check.due(what + ": MARSH", land.air(Wakeground.MARSH), marsh);
    }

    private static void atFirst() {
        air("at first", new Wakeground(), 0, 0);
    }

    private static void apart() {
        Wakeground land = Lands.pond(12, 3);
        land.ground(12, 2, 0, 0, 30000, 1000);
        land.ground(12, 4, 5, 0, -1000, 0);
        land.ground(12, 1, 5, 2, -1000, 0);
        land.ground(12, 3, 5, 2, -1000, 0);
        land.pass(1, -10, 0);
        // 300 degrees between layers of -10
        air("MARSH gas", land, 0, 176);
        land.fire(3);
        air("a fire", land, 200, 176);
    }

    /** "below 0 if plants took more" */
    private static void belowZero() {
        Wakeground land = new Wakeground();
        land.ground(0, 0, 5, 0, -1000, 200);
        land.fire(0);
        air("a fire", land, 100, 0);
        land.pass(2, 1, 0);
        air("24 cells with 2 of moss, 2 months", land, 4, 0);
        land.pass(1, 1, 0);
        air("3 months", land, -44, 0);
    }

    /** "`gas`: SMOKE or MARSH" */
    private static void gases() {
        Check.arguments("gas", Wakeground.SMOKE, Wakeground.MARSH, Lands::rich, (land, gas) -> land.air(gas));
        Check.arguments("gas at first", 0, 1, Wakeground::new, (land, gas) -> land.air(gas));
    }
}
