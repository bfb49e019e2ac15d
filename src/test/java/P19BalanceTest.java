/** Promises 19 and 20: balance, and air. */
public final class P19BalanceTest {
    public static void main(String[] args) {
        amounts();
        ponds();
        years();
        refused();
        Check.end("P19BalanceTest");
    }

    private static void due(Wakeground land, int kind, long inLand, long came, long left) {
        Check.due("balance(" + kind + ", 0)", land.balance(kind, 0), inLand);
        Check.due("balance(" + kind + ", 1)", land.balance(kind, 1), came);
        Check.due("balance(" + kind + ", 2)", land.balance(kind, 2), left);
        Check.due("balance(" + kind + ", 3)", land.balance(kind, 3), 0);
    }

    private static void amounts() {
        Wakeground land = new Wakeground();
        land.house(3, 1, false);
        land.house(4, 1, true);
        land.pass(1, -5, 0);
        // 50 from the air and 10 from below into each cell, 300 of a house, none of the cooled one
        due(land, 0, -125000 + 25 * 60 + 300, -125000 + 25 * 60 + 300, 0);
        due(land, 1, 800, 800, 0);
        due(land, 2, 50000, 50000, 0);
        land.pass(1, 15, 0);
        // the surfaces have -9 degrees then, that of the cell 3 has -6
        long came = 24 * 240 + 210 + 25 * 10 + 600;
        due(land, 0, -123200 + came, -123200 + came, 0);
        due(land, 2, 50050, 50000, -50);
        land.fire(0);
        due(land, 2, 50050 - 201, 50000, 151);
        Check.due("air(SMOKE)", land.air(Wakeground.SMOKE), 151);
        Check.due("air(MARSH)", land.air(Wakeground.MARSH), 0);
        land.ground(0, 0, 1, 1, -5000, 0);
        due(land, 1, 797, 797, 0);
        due(land, 2, 49849 - 201, 50000 - 201, 151);
    }

    private static void ponds() {
        Wakeground land = new Wakeground();
        land.ground(12, 4, 0, 5, 25000, 1000);
        land.pass(1, -10, 0);
        long marsh = land.air(Wakeground.MARSH);
        Check.due("MARSH gas", marsh > 0 ? 1 : 0, 1);
        due(land, 0, -125000 + 26000 + 250, -125000 + 26000 + 250, 0);
        due(land, 1, 800, 800, 0);
        due(land, 2, 50600 - marsh, 50600, marsh);
        land.breach(12);
        due(land, 0, -98750 - 5000, -98750, 5000);
        due(land, 1, 795, 800, 5);
        land.fire(0);
        due(land, 2, 50600 - marsh - 200, 50600, marsh + 200);
        Check.due("air(MARSH)", land.air(Wakeground.MARSH), marsh);
        Check.due("air(SMOKE)", land.air(Wakeground.SMOKE), 200);
    }

    private static void years() {
        Wakeground land = new Wakeground();
        for (int cell = 0; cell < 25; cell++) {
            land.ground(cell, cell % 5, cell % 10, 9 - cell % 7, 1200 * cell - 5000, 40 * cell);
        }
        for (int year = 0; year < 50; year++) {
            land.pass(5, 25, 0);
            land.pass(7, -35, 1);
            if (land.cellOf(year % 25, 1) > 0) {
                land.breach(year % 25);
            }
            Check.balanced("year " + year, land);
        }
        Check.due("month", land.month(), 600);
    }

    private static void refused() {
        Wakeground land = new Wakeground();
        Check.noArgument("balance(-1, 0)", land, () -> land.balance(-1, 0));
        Check.noArgument("balance(3, 0)", land, () -> land.balance(3, 0));
        Check.noArgument("balance(0, -1)", land, () -> land.balance(0, -1));
        Check.noArgument("balance(0, 4)", land, () -> land.balance(0, 4));
        Check.noArgument("air(-1)", land, () -> land.air(-1));
        Check.noArgument("air(2)", land, () -> land.air(2));
    }
}
