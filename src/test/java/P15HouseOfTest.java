/** Promise 15: houseOf, but for what a claim would be, which P09ClaimTest looks at. */
public final class P15HouseOfTest {
    public static void main(String[] args) {
        all();
        built();
        houses();
        whats();
        firstException();
        Check.end("P15HouseOfTest");
    }

    private static void told(String what, Wakeground land, int house, int... due) {
        for (int i = 0; i < due.length; i++) {
            Check.due(what + ": houseOf(" + house + ", " + i + ")", land.houseOf(house, i), due[i]);
        }
    }

    private static void all() {
        Wakeground land = Lands.still(6);
        land.borehole(6, 0);
        land.pass(2, 0, 0);
        land.house(6, 3, false);
        land.house(24, 1, true);
        told("at first", land, 0, 6, 3, 0, 2, 0);
        told("at first", land, 1, 24, 1, 0, 2, 0);
        land.pass(3, 0, 0);
        told("then", land, 0, 6, 3, 3, 2, 300);
        told("then", land, 1, 24, 1, 0, 2, 0);
    }

    /** "3 the month in which it was built" */
    private static void built() {
        Wakeground land = new Wakeground();
        land.house(0, 1, true);
        land.pass(1, -10, 0);
        land.house(1, 1, true);
        for (int i = 0; i < 24; i++) {
            land.pass(24, -10, 0);
        }
        land.pass(23, -10, 0);
        land.house(2, 1, true);
        int[] due = {0, 1, 600};
        for (int house = 0; house < 3; house++) {
            Check.due("house " + house, land.houseOf(house, 3), due[house]);
        }
    }

    /** "`IndexOutOfBoundsException` if there is no such house" */
    private static void houses() {
        Check.noIndex("no house", Wakeground::new, land -> land.houseOf(0, 0));
        for (int what = 0; what <= 4; what++) {
            int asked = what;
            Check.indexes("house of two", 0, 1, Lands::rich, (land, house) -> land.houseOf(house, asked));
            Check.indexes("house of ten", 0, 9, Lands::houses, (land, house) -> land.houseOf(house, asked));
        }
    }

    /** "`what`: 0 .. 4" */
    private static void whats() {
        Check.arguments("what", 0, 4, Lands::rich, (land, what) -> land.houseOf(1, what));
    }

    /** "the one that is listed first is thrown" */
    private static void firstException() {
        Check.noIndex("houseOf(2, 5)", Lands::rich, land -> land.houseOf(2, 5));
        Check.noIndex("houseOf(-1, -1)", Lands::rich, land -> land.houseOf(-1, -1));
        Check.noIndex("houseOf(0, 5) without houses", Wakeground::new, land -> land.houseOf(0, 5));
    }
}
