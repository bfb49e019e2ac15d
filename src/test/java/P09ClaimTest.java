/** Promises 9, 17 and 18, and of 15 what a claim would be: claim, claimOf, claimAnew. */
public final class P09ClaimTest {
    /** Energies of layers with 18 units: of 0 degrees and thawed, and of -1 degree. */
    private static final int THAWED = 9000, FROZEN = -150;

    public static void main(String[] args) {
        numberedFromZero();
        lesserOne();
        zeroOrMore();
        sinceItWasBuilt();
        upToNow();
        inItsCell();
        ofTheLayerOfItsPile();
        someBorehole();
        sunkBehindHouse();
        tiltWhenFiled();
        readWhenFiled();
        fortyAtMost();
        houses();
        claims();
        firstException();
        Check.end("P09ClaimTest");
    }

    /** Lets months pass in which the layers of the cell 7 have this energy, but for a little in 0 and 4. */
    private static void pass(Wakeground land, int months, int energy) {
        for (int i = 0; i < months; i++) {
            for (int layer = 0; layer < 5; layer++) {
                land.ground(7, layer, 9, 9, energy, 0);
            }
            land.pass(1, -10, 0);
        }
    }

    private static void claimNow(String what, Wakeground land, int house, int want) {
        Check.due(what + ": houseOf(.., 4)", land.houseOf(house, 4), want);
        int claim = land.claim(house);
        Check.due(what + ": claimOf", land.claimOf(claim), want);
        Check.due(what + ": claimAnew", land.claimAnew(claim), want);
    }

    private static void numberedFromZero() {
        Wakeground land = new Wakeground();
        land.house(7, 1, true);
        land.house(8, 1, true);
        for (int i = 0; i < 10; i++) {
            Check.due("claim", land.claim(i % 2), i);
        }
    }

    /**
     * "100 times the lesser one of its tilt and of the number of months since it was built in which
     * some borehole in its cell read 0 or more": whether these are the months of the tilt or not.
     */
    private static void lesserOne() {
        for (int tilt = 0; tilt <= 3; tilt++) {
            for (int read = 0; read <= 3; read++) {
                for (int both = 0; both <= Math.min(tilt, read); both++) {
                    Wakeground land = new Wakeground();
                    land.house(7, 3, true);
                    pass(land, tilt - both, THAWED);
                    land.borehole(7, 12);
                    pass(land, both, THAWED);
                    // it drifts by 1 a month: -1 degree is read as 0 or more
                    pass(land, read - both, FROZEN);
                    Check.due("tilt", land.houseOf(0, 2), tilt);
                    claimNow("tilt " + tilt + ", read " + read, land, 0, 100 * Math.min(tilt, read));
                }
            }
        }
    }

    /** "read 0 or more" */
    private static void zeroOrMore() {
        int[] drift = {-12, -11, 0, 11, 12};
        int[] read = {-1, 0, 0, 0, 1};
        for (int i = 0; i < drift.length; i++) {
            Wakeground land = new Wakeground();
            land.house(7, 2, true);
            land.borehole(7, drift[i]);
            pass(land, 1, THAWED);
            Check.due("reading", land.reading(0, 0, 2), read[i]);
            claimNow("read " + read[i], land, 0, read[i] < 0 ? 0 : 100);
        }
    }

    /** "since it was built": the month in which it was built counts, those ahead of it don't. */
    private static void sinceItWasBuilt() {
        // the borehole reads 0 in the months 0 and 1, and less later
        int[] due = {200, 100, 0, 0};
        for (int built = 0; built < due.length; built++) {
            Wakeground land = new Wakeground();
            land.borehole(7, -4);
            pass(land, built, THAWED);
            land.house(7, 2, true);
            pass(land, 5, THAWED);
            Check.due("tilt", land.houseOf(0, 2), 5);
            Check.due("month 1", land.reading(0, 1, 2), 0);
            Check.due("month 2", land.reading(0, 2, 2), -1);
            claimNow("built in " + built, land, 0, due[built]);
        }
    }

    private static void upToNow() {
        Wakeground land = new Wakeground();
        land.borehole(7, 0);
        pass(land, 3, THAWED);
        land.house(7, 2, true);
        claimNow("at once", land, 0, 0);
        for (int months = 1; months <= 5; months++) {
            pass(land, 1, THAWED);
            claimNow(months + " months", land, 0, 100 * months);
        }
        pass(land, 2, FROZEN);
        claimNow("frozen then", land, 0, 500);
    }

    /** "some borehole in its cell" */
    private static void inItsCell() {
        for (int cell = 0; cell < 25; cell++) {
            Wakeground land = new Wakeground();
            land.house(7, 2, true);
            land.borehole(cell, 12);
            for (int layer = 0; layer < 5; layer++) {
                land.ground(cell, layer, 9, 9, THAWED, 0);
            }
            pass(land, 1, THAWED);
            Check.due("read in " + cell, land.reading(0, 0, 2), 1);
            claimNow("read in " + cell, land, 0, cell == 7 ? 100 : 0);
        }
    }

    /** "of the layer of its pile" */
    private static void ofTheLayerOfItsPile() {
        for (int pile = 1; pile <= 4; pile++) {
            for (int warm = 0; warm < 5; warm++) {
                Wakeground land = new Wakeground();
                land.house(7, pile, true);
                pass(land, 2, THAWED);
                land.borehole(7, 0);
                for (int layer = 0; layer < 5; layer++) {
                    land.ground(7, layer, 9, 9, layer == warm ? THAWED : -1000, 0);
                }
                land.pass(1, -10, 0);
                Check.due("read", land.reading(0, 2, warm), 0);
                claimNow("pile " + pile + ", warm " + warm, land, 0, pile == warm ? 100 : 0);
            }
        }
    }

    /** Some borehole is enough, and several count no more than one. */
    private static void someBorehole() {
        int[][] drifts = {{-12, 0}, {0, -12}, {0, 0}, {-12, -12}, {12, 12}, {-12, -12, 0}, {0, 0, 0}};
        int[] due = {100, 100, 100, 0, 100, 100, 100};
        for (int i = 0; i < drifts.length; i++) {
            Wakeground land = new Wakeground();
            land.house(7, 2, true);
            pass(land, 3, THAWED);
            for (int drift : drifts[i]) {
                land.borehole(7, drift);
            }
            pass(land, 1, THAWED);
            Check.due("tilt", land.houseOf(0, 2), 4);
            claimNow("boreholes " + i, land, 0, due[i]);
        }
    }

    private static void sunkBehindHouse() {
        Wakeground land = new Wakeground();
        land.house(7, 2, true);
        pass(land, 4, THAWED);
        claimNow("no borehole", land, 0, 0);
        land.borehole(7, 0);
        claimNow("nothing read", land, 0, 0);
        pass(land, 2, THAWED);
        Check.due("tilt", land.houseOf(0, 2), 6);
        claimNow("sunk behind it", land, 0, 200);
        Check.due("the first claim anew", land.claimAnew(0), 0);
        Check.due("the second claim anew", land.claimAnew(1), 0);
    }

    /** "found from the tilt .. that were known when it was filed": it tilts more later. */
    private static void tiltWhenFiled() {
        for (int tilt = 0; tilt <= 2; tilt++) {
            Wakeground land = new Wakeground();
            land.house(7, 2, true);
            pass(land, tilt, THAWED);
            land.borehole(7, 12);
            pass(land, 4, FROZEN);
            claimNow("tilt " + tilt, land, 0, 100 * tilt);
            pass(land, 2, THAWED);
            Check.due("tilt then", land.houseOf(0, 2), tilt + 2);
            Check.due("what a claim would be then", land.houseOf(0, 4), 100 * (tilt + 2));
            Check.due("claimOf then", land.claimOf(0), 100 * tilt);
            Check.due("claimAnew then", land.claimAnew(0), 100 * tilt);
        }
    }

    /** "and the readings that were known when it was filed": more are read later. */
    private static void readWhenFiled() {
        Wakeground land = new Wakeground();
        land.house(7, 2, true);
        land.house(8, 2, true);
        pass(land, 2, THAWED);
        land.borehole(7, 12);
        // tilts 2, 3, 3, 3, 4 and readings 0, 1, 2, 3, 4
        int[] due = {0, 100, 200, 300, 400};
        int[] energy = {THAWED, FROZEN, FROZEN, THAWED};
        for (int i = 0; i < due.length; i++) {
            Check.due("claim", land.claim(0), 2 * i);
            Check.due("claim of another", land.claim(1), 2 * i + 1);
            if (i < energy.length) {
                pass(land, 1, energy[i]);
            }
        }
        pass(land, 5, THAWED);
        for (int i = 0; i < due.length; i++) {
            Check.due("claimOf(" + 2 * i + ")", land.claimOf(2 * i), due[i]);
            Check.due("claimAnew(" + 2 * i + ")", land.claimAnew(2 * i), due[i]);
            Check.due("claimOf of another", land.claimOf(2 * i + 1), 0);
            Check.due("claimAnew of another", land.claimAnew(2 * i + 1), 0);
        }
        Check.due("what a claim would be", land.houseOf(0, 4), 900);
    }

    /** "A claim, at most 40" */
    private static void fortyAtMost() {
        Wakeground land = new Wakeground();
        land.house(7, 1, true);
        for (int i = 0; i < 39; i++) {
            land.claim(0);
        }
        Check.due("the 40th", land.claim(0), 39);
        Check.due("claimOf(39)", land.claimOf(39), 0);
        Check.due("claimAnew(39)", land.claimAnew(39), 0);
        Check.noState("a 41st", Lands::claims, made -> made.claim(0));
        Check.noState("a 41st of another house", Lands::claims, made -> made.claim(1));
    }

    /** "`IndexOutOfBoundsException` if there is no such house" */
    private static void houses() {
        Check.noIndex("no house", Wakeground::new, land -> land.claim(0));
        Check.indexes("house of two", 0, 1, Lands::rich, (land, house) -> land.claim(house));
        Check.indexes("house of ten", 0, 9, Lands::houses, (land, house) -> land.claim(house));
    }

    /** "`IndexOutOfBoundsException` if there is no such claim" */
    private static void claims() {
        Check.noIndex("no claim", Lands::houses, land -> land.claimOf(0));
        Check.noIndex("no claim anew", Lands::houses, land -> land.claimAnew(0));
        Check.indexes("claimOf of two", 0, 1, Lands::rich, (land, claim) -> land.claimOf(claim));
        Check.indexes("claimAnew of two", 0, 1, Lands::rich, (land, claim) -> land.claimAnew(claim));
        Check.indexes("claimOf of forty", 0, 39, Lands::claims, (land, claim) -> land.claimOf(claim));
        Check.indexes("claimAnew of forty", 0, 39, Lands::claims, (land, claim) -> land.claimAnew(claim));
    }

    /** "the one that is listed first is thrown" */
    private static void firstException() {
        Check.noIndex("house 2 ahead of the forty", Lands::claims, land -> land.claim(2));
        Check.noIndex("house -1 ahead of the forty", Lands::claims, land -> land.claim(-1));
    }
}
