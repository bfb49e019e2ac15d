/** Promise 16: reading. */
public final class P16ReadingTest {
    public static void main(String[] args) {
        eachMonth();
        sinceItWasSunk();
        nothingRead();
        lastMonth();
        boreholes();
        layers();
        Check.end("P16ReadingTest");
    }

    private static void eachMonth() {
        Wakeground land = new Wakeground();
        land.borehole(7, 0);
        int[] degrees = {-20, -25, -30, -5};
        for (int month = 0; month < degrees.length; month++) {
            for (int layer = 0; layer < 5; layer++) {
                land.ground(7, layer, 5, 0, 100 * degrees[month], 0);
            }
            land.pass(1, -10, 0);
        }
        for (int month = 0; month < degrees.length; month++) {
            Check.due("month " + month, land.reading(0, month, 2), degrees[month]);
        }
    }

    private static Wakeground sunkInThree(int monthsThen) {
        Wakeground land = new Wakeground();
        land.pass(3, -10, 0);
        land.borehole(9, 0);
        for (int i = 0; i < monthsThen; i++) {
            land.pass(1, -10, 0);
        }
        return land;
    }

    /** "a month that has passed since it was sunk" */
    private static void sinceItWasSunk() {
        for (int months = 1; months <= 3; months++) {
            int passed = months;
            Check.indexes("month, " + months + " read", 3, 2 + months, () -> sunkInThree(passed),
                    (land, month) -> land.reading(0, month, 0));
        }
        Check.noIndex("month 0", () -> sunkInThree(2), land -> land.reading(0, 0, 0));
        Check.noIndex("month -1", () -> sunkInThree(2), land -> land.reading(0, -1, 0));
        // 3 less than these wrap around
        Check.noIndex("near the least", () -> sunkInThree(2), land -> land.reading(0, Integer.MIN_VALUE + 3, 0));
        Check.noIndex("near the most", () -> sunkInThree(2), land -> land.reading(0, Integer.MAX_VALUE - 3, 0));
        Check.indexes("month of a rich land", 0, 6, Lands::rich, (land, month) -> land.reading(1, month, 3));
    }

    /** "a month that has passed since it was sunk": none yet */
    private static void nothingRead() {
        for (int month = 2; month <= 4; month++) {
            int asked = month;
            Check.noIndex("nothing read, month " + month, () -> sunkInThree(0),
                    land -> land.reading(0, asked, 0));
        }
        Check.noIndex("sunk at first", Lands::boreholes, land -> land.reading(9, 0, 0));
    }

    private static Wakeground oldWithTwo() {
        Wakeground land = Lands.old(600);
        land.borehole(0, 1);
        return land;
    }

    /** "at most 600": the last month that is read is 599 */
    private static void lastMonth() {
        Wakeground land = oldWithTwo();
        Check.due("the first month", land.reading(0, 0, 3), -9);
        Check.due("month 599", land.reading(0, 599, 3), land.layerOf(0, 3, 0) + 600);
        Check.noIndex("month 600", P16ReadingTest::oldWithTwo, made -> made.reading(0, 600, 0));
        Check.noIndex("sunk in 600", P16ReadingTest::oldWithTwo, made -> made.reading(1, 600, 0));
        Check.noIndex("sunk in 600, month 599", P16ReadingTest::oldWithTwo, made -> made.reading(1, 599, 0));
        Wakeground late = Lands.old(599);
        late.borehole(7, 12);
        late.pass(1, -10, 0);
        Check.due("sunk in 599", late.reading(1, 599, 2), late.layerOf(7, 2, 0) + 1);
    }

    private static Wakeground tenThatRead() {
        Wakeground land = Lands.boreholes();
        land.pass(2, -10, 0);
        return land;
    }

    /** "`borehole`: its number" */
    private static void boreholes() {
        Check.noIndex("no borehole", () -> Lands.pond(12, 2), land -> land.reading(0, 0, 0));
        Check.indexes("borehole of three", 0, 2, Lands::rich, (land, borehole) -> land.reading(borehole, 3, 2));
        Check.indexes("borehole of ten", 0, 9, P16ReadingTest::tenThatRead,
                (land, borehole) -> land.reading(borehole, 1, 4));
    }

    /** "`layer`: 0 to 4" */
    private static void layers() {
        Check.indexes("layer in the first month", 0, 4, Lands::rich, (land, layer) -> land.reading(1, 0, layer));
        Check.indexes("layer in the last month", 0, 4, Lands::rich, (land, layer) -> land.reading(1, 6, layer));
        Check.noIndex("month and layer", Lands::rich, land -> land.reading(1, 7, 5));
        Check.noIndex("borehole and layer", Lands::rich, land -> land.reading(3, 0, -1));
    }
}
