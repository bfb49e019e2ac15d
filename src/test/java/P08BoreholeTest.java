/** Promise 8: borehole. */
public final class P08BoreholeTest {
    public static void main(String[] args) {
        numberedFromZero();
        severalInACell();
        anywhere();
        tenAtMost();
        cells();
        drifts();
        firstException();
        Check.end("P08BoreholeTest");
    }

    /** "Boreholes are numbered from 0" */
    private static void numberedFromZero() {
        Wakeground land = new Wakeground();
        land.ground(24, 2, 5, 3, -3000, 400);
        Check.due("the first", land.borehole(24, 0), 0);
        Check.due("the second", land.borehole(0, 0), 1);
        land.pass(1, -10, 0);
        Check.due("read by the first", land.reading(0, 0, 2), -22);
        Check.due("read by the second", land.reading(1, 0, 2), -10);
        Check.balanced("boreholes", land);
    }

    private static void severalInACell() {
        Wakeground land = new Wakeground();
        for (int i = 0; i < 10; i++) {
            Check.due("in the cell 7", land.borehole(7, i % 2 == 0 ? 12 : -12), i);
        }
        land.pass(1, -10, 0);
        for (int i = 0; i < 10; i++) {
            Check.due("read by " + i, land.reading(i, 0, 2), i % 2 == 0 ? -9 : -11);
        }
    }

    /** In a LAKE, under snow and beside a house too. */
    private static void anywhere() {
        Check.due("LAKE and snow", Lands.rich().borehole(12, 0), 3);
        Check.due("house", Lands.rich().borehole(6, 0), 3);
        Check.due("in the month 600", Lands.old(600).borehole(6, 0), 1);
    }

    /** "at most 10" */
    private static void tenAtMost() {
        Wakeground nine = new Wakeground();
        for (int i = 0; i < 9; i++) {
            nine.borehole(i, 0);
        }
        Check.due("the 10th", nine.borehole(9, 0), 9);
        nine.pass(1, -10, 0);
        Check.due("read by the 10th", nine.reading(9, 0, 2), -10);
        Check.noState("an 11th", Lands::boreholes, land -> land.borehole(0, 0));
        Check.noState("an 11th in a cell with another", Lands::boreholes, land -> land.borehole(24, 12));
    }

    /** "`cell`: 0 to 24" */
    private static void cells() {
        for (int cell = 0; cell < 25; cell++) {
            Check.due("borehole(" + cell + ", 0)", new Wakeground().borehole(cell, 0), 0);
        }
        Check.indexes("cell", 0, 24, Lands::rich, (land, cell) -> land.borehole(cell, 3));
    }

    /** "`drift`: -12 to 12" */
    private static void drifts() {
        for (int drift = -12; drift <= 12; drift++) {
            Wakeground land = new Wakeground();
            Check.due("borehole(7, " + drift + ")", land.borehole(7, drift), 0);
            land.pass(12, -10, 0);
            Check.due("drift " + drift + " in a year", land.reading(0, 11, 1), land.layerOf(7, 1, 0) + drift);
        }
        Check.arguments("drift", -12, 12, Lands::rich, (land, drift) -> land.borehole(7, drift));
    }

    /** "the one that is listed first is thrown" */
    private static void firstException() {
        for (int drift : new int[] {-13, 13}) {
            Check.noIndex("cell 25 ahead of drift", Lands::rich, land -> land.borehole(25, drift));
            Check.noIndex("cell -1 ahead of drift", Lands::rich, land -> land.borehole(-1, drift));
            Check.noArgument("drift ahead of the ten", Lands::boreholes, land -> land.borehole(0, drift));
            Check.noIndex("cell ahead of both", Lands::boreholes, land -> land.borehole(25, drift));
        }
        Check.noIndex("cell 25 ahead of the ten", Lands::boreholes, land -> land.borehole(25, 0));
        Check.noIndex("cell -1 ahead of the ten", Lands::boreholes, land -> land.borehole(-1, 0));
    }
}
