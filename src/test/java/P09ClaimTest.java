/** Promises 9, 17 and 18, and of 15 what a claim would be: claim, claimOf, claimAnew. */
public final class P09ClaimTest {
    public static void main(String[] args) {
        lesserOfTilt();
        lesserOfReadings();
        onlyItsCellAndPile();
        readAheadOfHouse();
        sunkBehindHouse();
        eachMonthOnce();
        readingOfZero();
        filed();
        most();
        Check.end("P09ClaimTest");
    }

    /** Gives all layers of a cell an energy that stays about where it is. */
    private static void tell(Wakeground land, int cell, int energy) {
        for (int layer = 0; layer < 5; layer++) {
            land.ground(cell, layer, 9, 9, energy, 0);
        }
    }

    private static void claimNow(String what, Wakeground land, int house, int want) {
        Check.due(what + ": houseOf(.., 4)", land.houseOf(house, 4), want);
        int claim = land.claim(house);
        Check.due(what + ": claimOf", land.claimOf(claim), want);
        Check.due(what + ": claimAnew", land.claimAnew(claim), want);
    }

    /** Read as warm for long, by its drift; tilted for two months alone. */
    private static void lesserOfTilt() {
        Wakeground land = new Wakeground();
        land.house(7, 3, true);
        land.borehole(7, 12);
        land.pass(20, -10, 0);
        int read = 0;
        for (int month = 0; month < 20; month++) {
            read += land.reading(0, month, 3) >= 0 ? 1 : 0;
        }
        Check.due("read often", read > 2 ? 1 : 0, 1);
        claimNow("no tilt", land, 0, 0);
        tell(land, 7, 9000);
        land.pass(2, -10, 0);
        Check.due("tilt", land.houseOf(0, 2), 2);
        claimNow("tilt 2", land, 0, 200);
    }

    /** Tilted for long, but the borehole drifts below 0. */
    private static void lesserOfReadings() {
        Wakeground land = new Wakeground();
        land.house(7, 3, true);
        land.borehole(7, -4);
        tell(land, 7, 9000);
        land.pass(9, -10, 0);
        Check.due("tilt", land.houseOf(0, 2), 9);
        Check.due("the last one of 0", land.reading(0, 1, 3), 0);
        Check.due("the first one below 0", land.reading(0, 2, 3), -1);
        claimNow("2 readings", land, 0, 200);
    }

    private static void onlyItsCellAndPile() {
        Wakeground land = new Wakeground();
        land.house(7, 3, true);
        land.house(8, 4, true);
        land.borehole(6, 12);
        land.borehole(8, 0);
        tell(land, 6, 9000);
        tell(land, 7, 9000);
        tell(land, 8, 9000);
        for (int i = 0; i < 4; i++) {
            land.pass(1, -10, 0);
            land.ground(8, 4, 9, 9, i < 2 ? 9000 : -3000, 0);
        }
        Check.due("tilt of the first", land.houseOf(0, 2), 4);
        claimNow("read in another cell", land, 0, 0);
        Check.due("tilt of the second", land.houseOf(1, 2), 3);
        claimNow("read of its pile", land, 1, 300);
        land.pass(3, -10, 0);
        claimNow("colder then", land, 1, 300);
        Check.due("layer 2 is warm still", land.reading(1, 6, 2), 0);
    }

    /** Months before the house was built don't count. */
    private static void readAheadOfHouse() {
        Wakeground land = new Wakeground();
        land.borehole(7, 0);
        tell(land, 7, 9000);
        land.pass(3, -10, 0);
        land.house(7, 2, true);
        claimNow("at once", land, 0, 0);
        land.pass(1, -10, 0);
        claimNow("a month", land, 0, 100);
        land.ground(7, 2, 9, 9, -5000, 0);
        land.pass(1, -10, 0);
        // were the three months counted, the lesser one would be the tilt still
        Check.due("tilt", land.houseOf(0, 2), 1);
        Wakeground drifts = new Wakeground();
        drifts.borehole(7, -4);
        tell(drifts, 7, 9000);
        drifts.pass(2, -10, 0);
        drifts.house(7, 2, true);
        drifts.pass(5, -10, 0);
        Check.due("tilt", drifts.houseOf(0, 2), 5);
        Check.due("read ahead of it", drifts.reading(0, 1, 2), 0);
        Check.due("read behind it", drifts.reading(0, 2, 2), -1);
        claimNow("read ahead of the house alone", drifts, 0, 0);
    }

    private static void sunkBehindHouse() {
        Wakeground land = new Wakeground();
        land.house(7, 2, true);
        tell(land, 7, 9000);
        land.pass(4, -10, 0);
        claimNow("no borehole", land, 0, 0);
        land.borehole(7, 0);
        claimNow("nothing read", land, 0, 0);
        land.pass(2, -10, 0);
        Check.due("tilt", land.houseOf(0, 2), 6);
        claimNow("sunk behind it", land, 0, 200);
        Check.due("the first claim anew", land.claimAnew(0), 0);
        Check.due("the second claim anew", land.claimAnew(1), 0);
    }

    /** Some borehole is enough, and several count no more than one. */
    private static void eachMonthOnce() {
        Wakeground land = new Wakeground();
        tell(land, 7, 9000);
        land.pass(3, -10, 0);
        tell(land, 7, 9000);
        land.house(7, 2, true);
        land.borehole(7, -12);
        land.borehole(7, 0);
        land.borehole(7, 12);
        land.borehole(7, -12);
        land.pass(2, -10, 0);
        Check.due("the first one is below 0", land.reading(0, 3, 2), -1);
        claimNow("two months", land, 0, 200);
        tell(land, 7, -100);
        land.pass(1, -10, 0);
        Check.due("tilt", land.houseOf(0, 2), 2);
        claimNow("read by drift alone", land, 0, 200);
        tell(land, 7, 9000);
        land.pass(1, -10, 0);
        claimNow("three tilts of four months", land, 0, 300);
    }

    private static void readingOfZero() {
        for (int drift = -12; drift <= -11; drift++) {
            Wakeground land = new Wakeground();
            land.house(7, 2, true);
            land.borehole(7, drift);
            tell(land, 7, 9000);
            land.pass(1, -10, 0);
            Check.due("reading", land.reading(0, 0, 2), drift == -12 ? -1 : 0);
            claimNow("drift " + drift, land, 0, drift == -12 ? 0 : 100);
        }
    }

    /** A claim stays what it was when it was filed. */
    private static void filed() {
        Wakeground land = new Wakeground();
        land.house(7, 1, true);
        land.borehole(7, 0);
        tell(land, 7, 9000);
        for (int i = 0; i < 5; i++) {
            Check.due("claim", land.claim(0), i);
            land.pass(1, -10, 0);
        }
        for (int i = 0; i < 5; i++) {
            Check.due("claimOf(" + i + ")", land.claimOf(i), 100 * i);
            Check.due("claimAnew(" + i + ")", land.claimAnew(i), 100 * i);
        }
        Check.due("what a claim would be", land.houseOf(0, 4), 500);
        Check.noIndex("claimOf(-1)", land, () -> land.claimOf(-1));
        Check.noIndex("claimOf(5)", land, () -> land.claimOf(5));
        Check.noIndex("claimAnew(-1)", land, () -> land.claimAnew(-1));
        Check.noIndex("claimAnew(5)", land, () -> land.claimAnew(5));
    }

    private static void most() {
        Wakeground land = new Wakeground();
        Check.noIndex("no house", land, () -> land.claim(0));
        land.house(7, 1, true);
        land.house(8, 1, true);
        Check.noIndex("claim(-1)", land, () -> land.claim(-1));
        Check.noIndex("claim(2)", land, () -> land.claim(2));
        for (int i = 0; i < 40; i++) {
            Check.due("claim", land.claim(i % 2), i);
        }
        Check.noState("a 41st", land, () -> land.claim(0));
        Check.noIndex("house ahead of a 41st", land, () -> land.claim(2));
        Check.due("claimOf(39)", land.claimOf(39), 0);
        Check.noIndex("claimOf(40)", land, () -> land.claimOf(40));
        Check.noIndex("claimAnew(40)", land, () -> land.claimAnew(40));
    }
}
