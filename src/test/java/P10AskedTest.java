/** Promises 10 to 14: month, cellOf, layerOf, neighbour, lakes. */
public final class P10AskedTest {
    public static void main(String[] args) {
        month();
        cellOf();
        thawedFromAbove();
        layerOf();
        temperatures();
        neighbours();
        lakes();
        lakesApart();
        Check.end("P10AskedTest");
    }

    private static void month() {
        Wakeground land = new Wakeground();
        Check.due("month()", land.month(), 0);
        land.pass(3, -10, 0);
        land.ground(0, 0, 5, 0, 0, 0);
        land.fire(0);
        land.house(0, 1, true);
        land.borehole(0, 1);
        land.claim(0);
        land.moss(0, 1);
        Check.due("month()", land.month(), 3);
    }

    private static void cellOf() {
        Wakeground land = new Wakeground();
        land.ground(12, 4, 0, 7, 25000, 0);
        land.ground(13, 4, 0, 1, 25000, 0);
        land.pass(1, -10, 6);
        land.moss(12, 1);
        land.ground(12, 0, 5, 0, 0, 0);
        int[] due = {93, 7, 6, 1, 0, Wakeground.NONE, 2, 1};
        for (int what = 0; what < due.length; what++) {
            Check.due("cellOf(12, " + what + ")", land.cellOf(12, what), due[what]);
        }
        land.house(13, 1, true);
        Check.due("cellOf(13, 5)", land.cellOf(13, 5), 0);
        land.ground(12, 1, 5, 2, -5000, 0);
        land.pass(1, -20, 0);
        Check.due("cellOf(12, 4)", land.cellOf(12, 4), 1);
        Check.noIndex("cellOf(-1, 0)", land, () -> land.cellOf(-1, 0));
        Check.noIndex("cellOf(25, 0)", land, () -> land.cellOf(25, 0));
        Check.noArgument("cellOf(0, -1)", land, () -> land.cellOf(0, -1));
        Check.noArgument("cellOf(0, 8)", land, () -> land.cellOf(0, 8));
        Check.noIndex("cellOf(25, 8)", land, () -> land.cellOf(25, 8));
    }

    private static void thawedFromAbove() {
        Wakeground land = new Wakeground();
        land.ground(3, 1, 5, 2, 5000, 0);
        Check.due("none from above", land.cellOf(3, 7), 0);
        land.ground(3, 0, 5, 2, -1, 0);
        Check.due("-1 is frozen", land.cellOf(3, 7), 0);
        land.ground(3, 0, 5, 2, 0, 0);
        Check.due("0 is thawed", land.cellOf(3, 7), 2);
        land.ground(3, 3, 5, 2, 0, 0);
        land.ground(3, 4, 5, 2, 0, 0);
        Check.due("one behind the other", land.cellOf(3, 7), 2);
        land.ground(3, 2, 5, 2, 0, 0);
        Check.due("all", land.cellOf(3, 7), 5);
    }

    private static void layerOf() {
        Wakeground land = new Wakeground();
        land.ground(24, 4, 3, 4, 5999, 321);
        int[] due = {0, 5999, 3, 4, 321, 5};
        for (int what = 0; what < due.length; what++) {
            Check.due("layerOf(24, 4, " + what + ")", land.layerOf(24, 4, what), due[what]);
        }
        Check.noIndex("layerOf(-1, 0, 0)", land, () -> land.layerOf(-1, 0, 0));
        Check.noIndex("layerOf(25, 0, 0)", land, () -> land.layerOf(25, 0, 0));
        Check.noIndex("layerOf(0, -1, 0)", land, () -> land.layerOf(0, -1, 0));
        Check.noIndex("layerOf(0, 5, 0)", land, () -> land.layerOf(0, 5, 0));
        Check.noArgument("layerOf(0, 0, -1)", land, () -> land.layerOf(0, 0, -1));
        Check.noArgument("layerOf(0, 0, 6)", land, () -> land.layerOf(0, 0, 6));
        Check.noIndex("layerOf(25, 0, 6)", land, () -> land.layerOf(25, 0, 6));
        Check.noIndex("layerOf(0, 5, 6)", land, () -> land.layerOf(0, 5, 6));
    }

    private static void temperatures() {
        int[] energy = {-5000, -101, -100, -99, -1, 0, 999, 1000, 4999, 5000, 5099, 5100, 5199, 5200, 30000};
        int[] degrees = {-50, -1, -1, 0, 0, 0, 0, 0, 0, 0, 0, 1, 1, 2, 250};
        int[] melted = {0, 0, 0, 0, 0, 0, 0, 1, 4, 5, 5, 5, 5, 5, 5};
        Wakeground land = new Wakeground();
        for (int i = 0; i < energy.length; i++) {
            land.ground(0, 0, 2, 3, energy[i], 0);
            Check.due("temperature at " + energy[i], land.layerOf(0, 0, 0), degrees[i]);
            Check.due("melted at " + energy[i], land.layerOf(0, 0, 5), melted[i]);
        }
        land.ground(0, 0, 0, 0, 30000, 0);
        Check.due("without units", land.layerOf(0, 0, 0), 300);
        Check.due("nothing to melt", land.layerOf(0, 0, 5), 0);
        land.ground(0, 0, 0, 0, 99, 0);
        Check.due("99 without units", land.layerOf(0, 0, 0), 0);
    }

    private static void neighbours() {
        Wakeground land = new Wakeground();
        for (int cell = 0; cell < 25; cell++) {
            int at = 0;
            for (int other = 0; other < 25; other++) {
                int rows = Math.abs(cell / 5 - other / 5);
                int columns = Math.abs(cell % 5 - other % 5);
                if (rows + columns == 1) {
                    Check.due("neighbour(" + cell + ", " + at + ")", land.neighbour(cell, at), other);
                    at++;
                }
            }
            for (; at < 7; at++) {
                Check.due("neighbour(" + cell + ", " + at + ")", land.neighbour(cell, at), Wakeground.NONE);
            }
        }
        Check.due("far behind", land.neighbour(0, Integer.MAX_VALUE), Wakeground.NONE);
        Check.noIndex("neighbour(-1, 0)", land, () -> land.neighbour(-1, 0));
        Check.noIndex("neighbour(25, 0)", land, () -> land.neighbour(25, 0));
        Check.noIndex("neighbour(0, -1)", land, () -> land.neighbour(0, -1));
        Check.noIndex("the smallest at", land, () -> land.neighbour(0, Integer.MIN_VALUE));
    }

    private static void lakes() {
        Wakeground land = new Wakeground();
        land.ground(12, 4, 0, 2, 25000, 0);
        land.ground(13, 4, 0, 2, 25000, 0);
        land.pass(1, -10, 0);
        Check.due("no LAKE", land.lakes(), 0);
        Check.due("size", land.cellOf(12, 6), 2);
        land.ground(14, 4, 0, 3, 25000, 0);
        land.ground(12, 4, 5, 0, -1000, 0);
        land.ground(13, 4, 5, 0, -1000, 0);
        land.ground(12, 3, 5, 2, -1000, 0);
        land.ground(13, 3, 5, 2, -1000, 0);
        land.pass(1, -10, 0);
        Check.due("a LAKE in it", land.lakes(), 1);
        Check.due("size then", land.cellOf(12, 6), 3);
        land.breach(12);
        Check.due("drained", land.lakes(), 0);
    }

    private static void lakesApart() {
        Wakeground land = new Wakeground();
        int[] cells = {4, 5, 0, 6, 18, 19, 24, 20};
        int[] units = {3, 4, 1, 5, 3, 9, 1, 2};
        int[] sizes = {1, 3, 3, 3, 3, 3, 3, 1};
        for (int i = 0; i < cells.length; i++) {
            land.ground(cells[i], 4, 0, units[i], 25000, 0);
        }
        land.pass(1, -10, 0);
        Check.due("lakes", land.lakes(), 3);
        for (int i = 0; i < cells.length; i++) {
            Check.due("size at " + cells[i], land.cellOf(cells[i], 6), sizes[i]);
        }
        Check.due("no water", land.cellOf(1, 6), 0);
        for (int cell = 0; cell < 25; cell++) {
            Wakeground one = new Wakeground();
            one.ground(cell, 4, 0, 3, 25000, 0);
            one.pass(1, -10, 0);
            Check.due("one lake, at " + cell, one.lakes(), 1);
        }
        Wakeground all = new Wakeground();
        for (int cell = 0; cell < 25; cell++) {
            all.ground(cell, 4, 0, 3, 25000, 0);
        }
        all.pass(1, -10, 0);
        Check.due("all one", all.lakes(), 1);
        Check.due("of 25", all.cellOf(12, 6), 25);
        Check.due("drained", all.breach(24), 75);
    }
}
