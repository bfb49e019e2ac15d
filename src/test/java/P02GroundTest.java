/** Promise 2: ground. */
public final class P02GroundTest {
    public static void main(String[] args) {
        told();
        toldBack();
        pore();
        excess();
        energy();
        carbon();
        eachLayer();
        broughtMore();
        broughtLess();
        broughtNothing();
        ranges();
        firstException();
        Check.end("P02GroundTest");
    }

    private static void told() {
        Wakeground land = new Wakeground();
        land.ground(7, 2, 4, 1, -250, 123);
        int[] due = {-2, -250, 4, 1, 123, 0};
        for (int what = 0; what < 6; what++) {
            Check.due("layerOf(7, 2, " + what + ")", land.layerOf(7, 2, what), due[what]);
        }
        Check.due("the layer above", land.layerOf(7, 1, 1), -1000);
        Check.due("the layer below", land.layerOf(7, 3, 1), -1000);
        Check.due("the same layer of another cell", land.layerOf(8, 2, 1), -1000);
        Check.due("height", land.cellOf(7, 0), 100);
        Check.due("water", land.cellOf(7, 1), 0);
        Check.balanced("told", land);
    }

    private static void toldBack() {
        Check.alike("told back", () -> {
            Wakeground land = new Wakeground();
            land.ground(7, 2, 4, 1, -250, 123);
            land.ground(7, 2, 5, 3, -1000, 400);
            return land;
        }, Wakeground::new);
    }

    /** "`pore`: 0 to 9" */
    private static void pore() {
        for (int pore : new int[] {0, 1, 8, 9}) {
            Wakeground land = new Wakeground();
            land.ground(3, 1, pore, 2, -1000, 400);
            Check.due("pore " + pore, land.layerOf(3, 1, 2), pore);
            Check.due("water brought", land.balance(1, 1), 800 + pore - 5);
        }
        Check.arguments("pore", 0, 9, Lands::rich, (land, pore) -> land.ground(3, 1, pore, 2, -900, 300));
    }

    /** "`excess`: 0 to 9" */
    private static void excess() {
        for (int excess : new int[] {0, 1, 8, 9}) {
            Wakeground land = new Wakeground();
            land.ground(3, 1, 5, excess, -1000, 400);
            Check.due("excess " + excess, land.layerOf(3, 1, 3), excess);
            Check.due("water brought", land.balance(1, 1), 800 + excess - 2);
        }
        Check.arguments("excess", 0, 9, Lands::rich, (land, excess) -> land.ground(3, 1, 4, excess, -900, 300));
    }

    /** "`energy`: -5000 to 30000" */
    private static void energy() {
        for (int energy : new int[] {-5000, -4999, 29999, 30000}) {
            Wakeground land = new Wakeground();
            land.ground(3, 1, 5, 2, energy, 400);
            Check.due("energy " + energy, land.layerOf(3, 1, 1), energy);
            Check.due("heat brought", land.balance(0, 1), -125000 + energy + 1000);
        }
        Check.arguments("energy", -5000, 30000, Lands::rich,
                (land, energy) -> land.ground(3, 1, 4, 3, energy, 300));
    }

    /** "`carbon`: 0 to 1000" */
    private static void carbon() {
        for (int carbon : new int[] {0, 1, 999, 1000}) {
            Wakeground land = new Wakeground();
            land.ground(3, 1, 5, 2, -1000, carbon);
            Check.due("carbon " + carbon, land.layerOf(3, 1, 4), carbon);
            Check.due("carbon brought", land.balance(2, 1), 50000 + carbon - 400);
        }
        Check.arguments("carbon", 0, 1000, Lands::rich,
                (land, carbon) -> land.ground(3, 1, 4, 3, -900, carbon));
    }

    private static void eachLayer() {
        Wakeground land = new Wakeground();
        for (int cell = 0; cell < 25; cell++) {
            for (int layer = 0; layer < 5; layer++) {
                land.ground(cell, layer, 5, 2, 10 * cell + layer, 400);
            }
        }
        for (int cell = 0; cell < 25; cell++) {
            for (int layer = 0; layer < 5; layer++) {
                Check.due("cell " + cell + ", layer " + layer, land.layerOf(cell, layer, 1), 10 * cell + layer);
            }
        }
    }

    private static void brought(String what, Wakeground land, long heat, long water, long carbon) {
        Check.due(what + ": heat", land.balance(0, 1), -125000 + heat);
        Check.due(what + ": water", land.balance(1, 1), 800 + water);
        Check.due(what + ": carbon", land.balance(2, 1), 50000 + carbon);
        Check.balanced(what, land);
    }

    /** "what is more by that" */
    private static void broughtMore() {
        Wakeground land = new Wakeground();
        land.ground(24, 4, 5, 1, -999, 401);
        brought("by 1", land, 1, 1, 1);
        land.ground(24, 4, 9, 9, 30000, 1000);
        brought("the most", land, 31000, 13, 600);
    }

    /** "and, below 0, what is less, counts as brought" */
    private static void broughtLess() {
        Wakeground land = new Wakeground();
        land.ground(0, 0, 4, 0, -1001, 399);
        brought("by 1", land, -1, -1, -1);
        land.ground(0, 0, 0, 0, -5000, 0);
        brought("the least", land, -4000, -5, -400);
    }

    private static void broughtNothing() {
        Wakeground land = new Wakeground();
        land.ground(0, 2, 5, 3, -1000, 400);
        brought("the same", land, 0, 0, 0);
        land.ground(0, 2, 3, 5, -1000, 400);
        brought("as many units", land, 0, 0, 0);
    }

    /** "`IndexOutOfBoundsException` if there is no such cell or layer" */
    private static void ranges() {
        Check.indexes("cell", 0, 24, Lands::rich, (land, cell) -> land.ground(cell, 0, 4, 1, 900, 300));
        Check.indexes("layer", 0, 4, Lands::rich, (land, layer) -> land.ground(3, layer, 4, 1, 900, 300));
    }

    /** "the one that is listed first is thrown" */
    private static void firstException() {
        Check.noIndex("cell and layer", Lands::rich, land -> land.ground(-1, 5, 0, 0, 0, 0));
        for (int[] no : new int[][] {{25, 0}, {-1, 4}, {0, 5}, {24, -1}}) {
            String ahead = "ground(" + no[0] + ", " + no[1] + ", ..) ahead of ";
            Check.noIndex(ahead + "pore", Lands::rich, land -> land.ground(no[0], no[1], 10, 0, 0, 0));
            Check.noIndex(ahead + "excess", Lands::rich, land -> land.ground(no[0], no[1], 0, -1, 0, 0));
            Check.noIndex(ahead + "energy", Lands::rich, land -> land.ground(no[0], no[1], 0, 0, -5001, 0));
            Check.noIndex(ahead + "carbon", Lands::rich, land -> land.ground(no[0], no[1], 0, 0, 0, 1001));
        }
    }
}
