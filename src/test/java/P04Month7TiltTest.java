/** Promise 4, in a month, 7: houses tilt. */
public final class P04Month7TiltTest {
    public static void main(String[] args) {
        thawed();
        byPile();
        byOne();
        fromItsMonth();
        behindHeat();
        behindTheCrack();
        Check.end("P04Month7TiltTest");
    }

    /** "It is thawed, if its energy is 0 or more." */
    private static void thawed() {
        int[] energy = {-99, -2, -1, 0, 1, 999, 9000};
        for (int pile = 1; pile <= 4; pile++) {
            for (int i = 0; i < energy.length; i++) {
                Wakeground land = Lands.still(5);
                land.house(5, pile, false);
                // into the layer 4 come 10
                land.ground(5, pile, 9, 0, pile == 4 && i > 0 ? energy[i] - 10 : energy[i], 0);
                land.pass(1, 0, 0);
                String what = "pile " + pile + ", energy " + energy[i];
                Check.due(what, land.houseOf(0, 2), energy[i] >= 0 ? 1 : 0);
                Check.so(what + " is so then", land.layerOf(5, pile, 1) < 0 == energy[i] < 0);
            }
        }
    }

    /** "each whose pile stands in a layer that is thawed" */
    private static void byPile() {
        for (int thawed = 0; thawed < 5; thawed++) {
            Wakeground land = new Wakeground();
            for (int pile = 1; pile < 5; pile++) {
                land.house(2 + pile, pile, pile % 2 == 0);
                land.ground(2 + pile, thawed, 9, 9, 9000, 0);
            }
            land.house(20, 2, false);
            land.pass(3, -10, 0);
            for (int pile = 1; pile < 5; pile++) {
                Check.due("pile " + pile + ", thawed " + thawed, land.houseOf(pile - 1, 2),
                        pile == thawed ? 3 : 0);
            }
            Check.due("another cell", land.houseOf(4, 2), 0);
        }
    }

    /** "tilts by 1" */
    private static void byOne() {
        Wakeground land = Lands.still(5);
        land.house(5, 2, false);
        for (int month = 1; month <= 5; month++) {
            land.pass(1, 0, 0);
            Check.due("tilt after " + month, land.houseOf(0, 2), month);
        }
        land.ground(5, 2, 5, 0, -5000, 0);
        land.pass(1, 0, 0);
        Check.due("it stays, when it freezes", land.houseOf(0, 2), 5);
        land.ground(5, 2, 9, 0, 9000, 0);
        Check.due("not by what is told", land.houseOf(0, 2), 5);
        land.pass(1, 0, 0);
        Check.due("more, when it thaws", land.houseOf(0, 2), 6);
    }

    private static void fromItsMonth() {
        Wakeground land = Lands.still(5);
        land.pass(4, 0, 0);
        land.house(5, 2, false);
        Check.due("tilt at first", land.houseOf(0, 2), 0);
        land.pass(1, 0, 0);
        Check.due("tilt of its first month", land.houseOf(0, 2), 1);
    }

    /** By the energy behind the heat of the month. */
    private static void behindHeat() {
        int[] energy = {-11, -10, -9};
        for (int i = 0; i < energy.length; i++) {
            Wakeground land = Lands.still(5);
            land.house(5, 4, false);
            land.ground(5, 4, 5, 0, energy[i], 0);
            land.pass(1, 0, 0);
            Check.due("energy", land.layerOf(5, 4, 1), energy[i] + 10);
            Check.due("temperature", land.layerOf(5, 4, 0), 0);
            Check.due("tilt at " + (energy[i] + 10), land.houseOf(0, 2), i > 0 ? 1 : 0);
        }
    }

    /** The water that freezes into a wedge brings its heat ahead of that. */
    private static void behindTheCrack() {
        int[] energy = {-1001, -1000};
        for (int i = 0; i < energy.length; i++) {
            Wakeground land = new Wakeground();
            land.house(0, 1, true);
            Lands.ponds(land, new int[] {0}, new int[] {1});
            land.ground(0, 1, 5, 2, energy[i], 400);
            land.pass(1, -20, 0);
            Check.due("wedges", land.cellOf(0, 4), 1);
            Check.due("energy", land.layerOf(0, 1, 1), energy[i] + 1000);
            Check.due("tilt at " + (energy[i] + 1000), land.houseOf(0, 2), i);
        }
    }
}
