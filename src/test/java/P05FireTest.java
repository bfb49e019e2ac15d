/** Promise 5: fire. */
public final class P05FireTest {
    public static void main(String[] args) {
        halfRoundedDown();
        takesTheMoss();
        eachCell();
        smokeOfSeveral();
        inWater();
        inSnow();
        cells();
        firstException();
        Check.end("P05FireTest");
    }

    /** "half of the carbon of its layer 0, rounded down, is SMOKE" */
    private static void halfRoundedDown() {
        int[] carbon = {0, 1, 2, 3, 4, 999, 1000};
        int[] smoke = {0, 0, 1, 1, 2, 499, 500};
        for (int i = 0; i < carbon.length; i++) {
            Wakeground land = new Wakeground();
            land.ground(0, 0, 5, 0, -1000, carbon[i]);
            Check.due("fire with " + carbon[i], land.fire(0), smoke[i]);
            Check.due("carbon left", land.layerOf(0, 0, 4), carbon[i] - smoke[i]);
            Check.due("carbon below", land.layerOf(0, 1, 4), 400);
            Check.due("SMOKE", land.air(Wakeground.SMOKE), smoke[i]);
            Check.due("MARSH", land.air(Wakeground.MARSH), 0);
            Check.due("carbon that left", land.balance(2, 2), smoke[i]);
            Check.balanced("fire", land);
        }
    }

    /** "A fire takes the moss of a cell away" */
    private static void takesTheMoss() {
        for (int moss = 0; moss <= 3; moss++) {
            Wakeground land = new Wakeground();
            land.moss(7, moss);
            Check.due("fire", land.fire(7), 200);
            Check.due("moss", land.cellOf(7, 3), 0);
            Check.due("moss beside", land.cellOf(8, 3), 2);
        }
    }

    private static void eachCell() {
        for (int cell = 0; cell < 25; cell++) {
            Wakeground land = new Wakeground();
            Check.due("fire", land.fire(cell), 200);
            for (int other = 0; other < 25; other++) {
                Check.due("fire in " + cell + ", moss of " + other, land.cellOf(other, 3), other == cell ? 0 : 2);
                Check.due("fire in " + cell + ", carbon of " + other, land.layerOf(other, 0, 4),
                        other == cell ? 200 : 400);
            }
        }
    }

    private static void smokeOfSeveral() {
        Wakeground land = new Wakeground();
        land.ground(0, 0, 5, 0, -1000, 401);
        Check.due("fire(0)", land.fire(0), 200);
        Check.due("fire(0) again", land.fire(0), 100);
        Check.due("fire(24)", land.fire(24), 200);
        Check.due("carbon then", land.layerOf(0, 0, 4), 101);
        Check.due("SMOKE then", land.air(Wakeground.SMOKE), 500);
    }

    /** "if it is a LAKE" */
    private static void inWater() {
        for (int units = 1; units <= 4; units++) {
            int water = units;
            if (units < 3) {
                Check.due(units + " units", Lands.pond(12, units).fire(12), 200);
            } else {
                Check.noState(units + " units", () -> Lands.pond(12, water), land -> land.fire(12));
            }
            Check.due("beside", Lands.pond(12, units).fire(11), 200);
        }
        Wakeground drained = Lands.pond(12, 3);
        drained.breach(12);
        Check.due("drained", drained.fire(12), 200);
        Check.noState("a LAKE in a rich land", Lands::richWithoutSnow, land -> land.fire(12));
        Check.taken("no LAKE in a rich land", Lands.richWithoutSnow(), land -> land.fire(11));
    }

    private static Wakeground underSnow(int snow) {
        Wakeground land = new Wakeground();
        land.pass(1, -10, snow);
        return land;
    }

    /** "or has snow" */
    private static void inSnow() {
        Check.due("no snow", underSnow(0).fire(7), 200);
        for (int snow : new int[] {1, 2, 9}) {
            Check.noState("snow " + snow, () -> underSnow(snow), land -> land.fire(7));
            Wakeground thawed = underSnow(snow);
            thawed.pass(1, 0, 9);
            Check.due("snow " + snow + " that went", thawed.fire(7), 200);
        }
        Check.noState("snow in a rich land", Lands::rich, land -> land.fire(0));
        Check.noState("a LAKE under snow", Lands::rich, land -> land.fire(12));
    }

    /** "`cell`: 0 to 24" */
    private static void cells() {
        Check.indexes("cell", 0, 24, Lands::richWithoutSnow, (land, cell) -> land.fire(cell));
    }

    /** "the one that is listed first is thrown" */
    private static void firstException() {
        Check.noIndex("fire(25) in snow", Lands::rich, land -> land.fire(25));
        Check.noIndex("fire(-1) in snow", Lands::rich, land -> land.fire(-1));
    }
}
