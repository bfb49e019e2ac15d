/** Promise 12: layerOf. */
public final class P12LayerOfTest {
    public static void main(String[] args) {
        all();
        belowZero();
        aboveItsUnits();
        otherwiseZero();
        melted();
        ranges();
        firstException();
        Check.end("P12LayerOfTest");
    }

    private static void all() {
        Wakeground land = new Wakeground();
        land.ground(24, 4, 3, 4, 7251, 321);
        int[] due = {2, 7251, 3, 4, 321, 7};
        for (int what = 0; what < due.length; what++) {
            Check.due("layerOf(24, 4, " + what + ")", land.layerOf(24, 4, what), due[what]);
        }
    }

    private static void temperature(int pore, int excess, int energy, int degrees) {
        Wakeground land = new Wakeground();
        land.ground(7, 3, pore, excess, energy, 0);
        Check.due("units " + pore + " and " + excess + ", energy " + energy, land.layerOf(7, 3, 0), degrees);
    }

    /** "its energy divided by 100, toward 0, if that energy is below 0" */
    private static void belowZero() {
        int[] energy = {-1, -99, -100, -101, -199, -200, -4999, -5000};
        int[] degrees = {0, 0, -1, -1, -1, -2, -49, -50};
        for (int i = 0; i < energy.length; i++) {
            temperature(0, 0, energy[i], degrees[i]);
            temperature(2, 3, energy[i], degrees[i]);
        }
    }

    /** "if it is above 1000 times its units, what is above that, divided by 100, rounded down" */
    private static void aboveItsUnits() {
        int[] above = {0, 1, 99, 100, 101, 199, 200, 999, 1000};
        int[] degrees = {0, 0, 0, 1, 1, 1, 2, 9, 10};
        for (int units = 0; units <= 18; units++) {
            for (int i = 0; i < above.length; i++) {
                temperature(Math.min(units, 9), Math.max(units - 9, 0), 1000 * units + above[i], degrees[i]);
            }
        }
        temperature(2, 3, 6000, 10);
        temperature(3, 2, 6000, 10);
        temperature(0, 5, 6000, 10);
        temperature(0, 0, 30000, 300);
        temperature(9, 9, 30000, 120);
    }

    /** "otherwise 0" */
    private static void otherwiseZero() {
        for (int energy : new int[] {0, 1, 99, 100, 1000, 4900, 4999, 5000}) {
            temperature(2, 3, energy, 0);
        }
        temperature(0, 0, 0, 0);
        temperature(0, 1, 1000, 0);
    }

    /** "5 how many units have melted": "the energy divided by 1000, rounded down, 0 at least, and at most all" */
    private static void melted() {
        int[] energy = {-5000, -1000, -1, 0, 999, 1000, 1001, 1999, 2000, 4999, 5000, 5999, 6000, 30000};
        int[] due = {0, 0, 0, 0, 0, 1, 1, 1, 2, 4, 5, 5, 5, 5};
        for (int i = 0; i < energy.length; i++) {
            Wakeground land = new Wakeground();
            land.ground(0, 0, 2, 3, energy[i], 0);
            land.ground(0, 1, 5, 0, energy[i], 0);
            land.ground(0, 2, 0, 5, energy[i], 0);
            land.ground(0, 3, 0, 0, energy[i], 0);
            for (int layer = 0; layer < 3; layer++) {
                Check.due("melted at " + energy[i], land.layerOf(0, layer, 5), due[i]);
            }
            Check.due("nothing to melt", land.layerOf(0, 3, 5), 0);
        }
    }

    /** "`cell`: 0 to 24", "`layer`: 0 to 4", "`what`: 0 .. 5" */
    private static void ranges() {
        for (int what = 0; what <= 5; what++) {
            int asked = what;
            Check.indexes("cell, what " + what, 0, 24, Lands::rich,
                    (land, cell) -> land.layerOf(cell, 3, asked));
            Check.indexes("layer, what " + what, 0, 4, Lands::rich,
                    (land, layer) -> land.layerOf(12, layer, asked));
        }
        Check.arguments("what", 0, 5, Lands::rich, (land, what) -> land.layerOf(12, 4, what));
    }

    /** "the one that is listed first is thrown" */
    private static void firstException() {
        Check.noIndex("layerOf(25, 0, 6)", Lands::rich, land -> land.layerOf(25, 0, 6));
        Check.noIndex("layerOf(-1, 0, -1)", Lands::rich, land -> land.layerOf(-1, 0, -1));
        Check.noIndex("layerOf(0, 5, 6)", Lands::rich, land -> land.layerOf(0, 5, 6));
        Check.noIndex("layerOf(0, -1, -1)", Lands::rich, land -> land.layerOf(0, -1, -1));
        Check.noIndex("layerOf(25, 5, 6)", Lands::rich, land -> land.layerOf(25, 5, 6));
    }
}
