/** Promises 8 and 16: borehole, and reading. */
public final class P08BoreholeTest {
    public static void main(String[] args) {
        sinking();
        layers();
        drifting();
        monthsRead();
        most();
        lastMonth();
        Check.end("P08BoreholeTest");
    }

    private static void sinking() {
        Wakeground land = new Wakeground();
        Check.noIndex("cell -1", land, () -> land.borehole(-1, 0));
        Check.noIndex("cell 25", land, () -> land.borehole(25, 0));
        Check.noArgument("drift -13", land, () -> land.borehole(0, -13));
        Check.noArgument("drift 13", land, () -> land.borehole(0, 13));
        Check.noIndex("cell ahead of drift", land, () -> land.borehole(25, 13));
        Check.due("the first", land.borehole(0, -12), 0);
        Check.due("the second", land.borehole(24, 12), 1);
        Check.due("one more in the cell", land.borehole(0, 0), 2);
    }

    private static void layers() {
        Wakeground land = new Wakeground();
        int[] energy = {-4000, 2000, -3000, 25000, -2000};
        for (int layer = 0; layer < 5; layer++) {
            land.ground(6, layer, 5, 2, energy[layer], 0);
        }
        land.borehole(6, 0);
        land.borehole(7, 0);
        for (int month = 0; month < 3; month++) {
            land.pass(1, -10, 0);
            for (int layer = 0; layer < 5; layer++) {
                Check.due("reading(0, " + month + ", " + layer + ")", land.reading(0, month, layer),
                        land.layerOf(6, layer, 0));
                Check.due("reading(1, " + month + ", " + layer + ")", land.reading(1, month, layer),
                        land.layerOf(7, layer, 0));
            }
        }
        Check.due("layer 3 is warm", land.reading(0, 0, 3) > 0 ? 1 : 0, 1);
        Check.due("layer 0 is cold", land.reading(0, 0, 0) < -20 ? 1 : 0, 1);
    }

    /** The drift counts the month that is read, and is rounded toward 0. */
    private static void drifting() {
        Wakeground land = new Wakeground();
        land.pass(5, -10, 0);
        int[] drift = {-12, -7, -1, 0, 1, 5, 12};
        for (int i = 0; i < drift.length; i++) {
            land.borehole(i, drift[i]);
        }
        for (int months = 1; months <= 30; months++) {
            land.pass(1, -10, 0);
            for (int i = 0; i < drift.length; i++) {
                Check.due("drift " + drift[i] + " after " + months, land.reading(i, 4 + months, 2),
                        land.layerOf(i, 2, 0) + drift[i] * months / 12);
            }
        }
        Check.due("drift -1 after 11", land.reading(2, 15, 2), land.reading(3, 15, 2));
        Check.due("drift -1 after 12", land.reading(2, 16, 2), land.reading(3, 16, 2) - 1);
        Check.due("drift 12 after 1", land.reading(6, 5, 2), land.reading(3, 5, 2) + 1);
    }

    private static void monthsRead() {
        Wakeground land = new Wakeground();
        land.pass(3, -10, 0);
        land.borehole(9, 0);
        Check.noIndex("nothing read", land, () -> land.reading(0, 3, 0));
        Check.noIndex("ahead of it", land, () -> land.reading(0, 2, 0));
        land.pass(2, -10, 0);
        // the layer 4 has -1000, -990, -1000, -970 and -980 so far
        Check.due("the first month", land.reading(0, 3, 4), -9);
        Check.due("the last month", land.reading(0, 4, 1), -10);
        Check.noIndex("before it was sunk", land, () -> land.reading(0, 2, 0));
        Check.noIndex("month 0", land, () -> land.reading(0, 0, 0));
        Check.noIndex("month -1", land, () -> land.reading(0, -1, 0));
        Check.noIndex("the month now", land, () -> land.reading(0, 5, 0));
        Check.noIndex("the largest month", land, () -> land.reading(0, Integer.MAX_VALUE, 0));
        Check.noIndex("the smallest month", land, () -> land.reading(0, Integer.MIN_VALUE, 0));
        Check.noIndex("layer -1", land, () -> land.reading(0, 4, -1));
        Check.noIndex("layer 5", land, () -> land.reading(0, 3, 5));
        Check.noIndex("borehole -1", land, () -> land.reading(-1, 3, 0));
        Check.noIndex("borehole 1", land, () -> land.reading(1, 3, 0));
    }

    private static void most() {
        Wakeground land = new Wakeground();
        for (int i = 0; i < 10; i++) {
            Check.due("borehole", land.borehole(24 - i, i), i);
        }
        Check.noState("an 11th", land, () -> land.borehole(0, 0));
        Check.noArgument("drift ahead of an 11th", land, () -> land.borehole(0, 13));
        Check.noIndex("cell ahead of an 11th", land, () -> land.borehole(25, 0));
        land.pass(1, -10, 0);
        Check.due("the 10th", land.reading(9, 0, 2), -10);
    }

    private static void lastMonth() {
        Wakeground land = new Wakeground();
        land.borehole(0, 12);
        for (int i = 0; i < 25; i++) {
            land.pass(24, 0, 0);
        }
        land.borehole(0, 1);
        Check.due("month 599", land.reading(0, 599, 3), land.layerOf(0, 3, 0) + 600);
        Check.noIndex("month 600", land, () -> land.reading(0, 600, 0));
        Check.noIndex("sunk in month 600", land, () -> land.reading(1, 600, 0));
        Check.noIndex("sunk in month 600, month 599", land, () -> land.reading(1, 599, 0));
    }
}
