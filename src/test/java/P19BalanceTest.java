/** Promise 19: balance. */
public final class P19BalanceTest {
    public static void main(String[] args) {
        heatThatCame();
        heatOfPonds();
        water();
        carbon();
        zero();
        kinds();
        whats();
        Check.end("P19BalanceTest");
    }

    private static void due(String what, Wakeground land, int kind, long inLand, long came, long left) {
        Check.due(what + ": balance(" + kind + ", 0)", land.balance(kind, 0), inLand);
        Check.due(what + ": balance(" + kind + ", 1)", land.balance(kind, 1), came);
        Check.due(what + ": balance(" + kind + ", 2)", land.balance(kind, 2), left);
        Check.due(what + ": balance(" + kind + ", 3)", land.balance(kind, 3), 0);
    }

    /** "for heat: also what came in from the air, from below and by houses, less what went out" */
    private static void heatThatCame() {
        Wakeground land = new Wakeground();
        land.house(3, 1, false);
        land.house(4, 1, true);
        land.pass(1, -5, 0);
        // 50 from the air and 10 from below into each cell, 300 of a house, none of the cooled one
        long came = -125000 + 25 * 60 + 300;
        due("from the air", land, 0, came, came, 0);
        due("no water", land, 1, 800, 800, 0);
        due("no carbon", land, 2, 50000, 50000, 0);
        land.pass(1, 15, 0);
        // the surfaces have -9 degrees then, that of the cell 3 has -6
        came += 24 * 240 + 210 + 25 * 10 + 600;
        due("by houses", land, 0, came, came, 0);
        Wakeground out = new Wakeground();
        out.pass(1, -11, 0);
        due("out into the air", out, 0, -125000, -125000, 0);
        out.pass(1, -12, 0);
        due("more than from below", out, 0, -125250, -125250, 0);
    }

    /** "The heat of the land is the energy of all layers, and 1000 for each unit of water in ponds" */
    private static void heatOfPonds() {
        for (int units = 0; units <= 9; units++) {
            Wakeground land = new Wakeground();
            Lands.melt(land, 12, units);
            land.pass(1, -10, 0);
            long came = -125000 + 26000 + 250;
            due(units + " units", land, 0, came, came, 0);
            long energy = 0;
            for (int layer = 0; layer < 5; layer++) {
                energy += land.layerOf(12, layer, 1);
            }
            Check.due("energy of its layers", energy, -5000 + 26000 + 10 - 1000 * units);
        }
        Wakeground drained = Lands.pond(12, 5);
        drained.breach(12);
        long came = drained.balance(0, 1);
        due("drained", drained, 0, came - 5000, came, 5000);
    }

    /** "1 water, pore and excess units and ponds", "water that drained" */
    private static void water() {
        Wakeground land = new Wakeground();
        land.ground(12, 0, 9, 9, -1000, 400);
        due("more", land, 1, 813, 813, 0);
        Lands.melt(land, 12, 5);
        due("told", land, 1, 813, 813, 0);
        land.pass(1, -10, 0);
        due("a pond", land, 1, 813, 813, 0);
        land.breach(12);
        due("drained", land, 1, 808, 813, 5);
        land.ground(12, 0, 0, 0, -1000, 400);
        due("less", land, 1, 790, 795, 5);
        Wakeground wedge = Lands.pond(0, 1);
        wedge.pass(1, -20, 0);
        Check.due("a wedge", wedge.layerOf(0, 1, 3), 3);
        // frozen as at first, the layers of the cell have 800 with all others
        due("a wedge", wedge, 1, 801, 801, 0);
    }

    /** "carbon in the air, SMOKE and MARSH gas together" */
    private static void carbon() {
        Wakeground land = Lands.pond(12, 5);
        long brought = land.balance(2, 1);
        land.ground(12, 2, 0, 0, 30000, 1000);
        brought += 600;
        land.pass(1, -10, 0);
        long marsh = land.air(Wakeground.MARSH);
        Check.so("MARSH gas", marsh > 0);
        due("MARSH gas", land, 2, brought - marsh, brought, marsh);
        Check.due("SMOKE", land.fire(0), 200);
        due("SMOKE too", land, 2, brought - marsh - 200, brought, marsh + 200);
        Wakeground plants = new Wakeground();
        plants.pass(1, 1, 0);
        due("plants", plants, 2, 50050, 50000, -50);
    }

    /** "3 the second less the first and the third, which is 0" */
    private static void zero() {
        Wakeground land = new Wakeground();
        for (int cell = 0; cell < 25; cell++) {
            land.ground(cell, cell % 5, cell % 10, 9 - cell % 7, 1200 * cell - 5000, 40 * cell);
        }
        for (int year = 0; year < 50; year++) {
            land.pass(5, 25, 0);
            land.pass(7, -35, 1);
            if (land.cellOf(year % 25, 1) > 0) {
                land.breach(year % 25);
            }
            for (int kind = 0; kind < 3; kind++) {
                Check.due("year " + year + ", kind " + kind, land.balance(kind, 3), 0);
                if (year % 10 == 9) {
                    Check.due("in parts", land.balance(kind, 1), land.balance(kind, 0) + land.balance(kind, 2));
                }
            }
        }
        Check.due("month", land.month(), 600);
        Check.balanced("a rich land", Lands.rich());
        Check.balanced("a rich land then", Lands.goneOn(Lands.rich()));
    }

    /** "`kind`: 0 heat, 1 water, .. 2 carbon" */
    private static void kinds() {
        for (int what = 0; what <= 3; what++) {
            int asked = what;
            Check.arguments("kind, what " + what, 0, 2, Lands::rich, (land, kind) -> land.balance(kind, asked));
        }
        Check.noArgument("both", Lands::rich, land -> land.balance(3, 4));
    }

    /** "`what`: 0 .. 3" */
    private static void whats() {
        for (int kind = 0; kind <= 2; kind++) {
            int asked = kind;
            Check.arguments("what of " + kind, 0, 3, Lands::rich, (land, what) -> land.balance(asked, what));
        }
    }
}
