/** Promise 4, in a month, 1: snow. */
public final class P04Month1SnowTest {
    public static void main(String[] args) {
        belowZero();
        nineAtMost();
        otherwiseNone();
        eachCell();
        Check.end("P04Month1SnowTest");
    }

    /** "If the air is below 0, each cell has so much more snow .. otherwise it has none." */
    private static void belowZero() {
        int[] air = {-50, -2, -1, 0, 1, 30};
        int[] snow = {4, 4, 4, 0, 0, 0};
        for (int i = 0; i < air.length; i++) {
            Wakeground land = new Wakeground();
            land.pass(1, air[i], 4);
            Check.due("snow at " + air[i], land.cellOf(7, 2), snow[i]);
        }
        Wakeground land = new Wakeground();
        land.pass(1, -1, 4);
        land.pass(1, -50, 0);
        Check.due("no snow more", land.cellOf(7, 2), 4);
    }

    /** "9 at most" */
    private static void nineAtMost() {
        for (int before = 0; before <= 9; before++) {
            for (int more = 0; more <= 9; more++) {
                Wakeground land = new Wakeground();
                land.pass(1, -10, before);
                land.pass(1, -10, more);
                Check.due("snow " + before + " and " + more, land.cellOf(7, 2), Math.min(before + more, 9));
            }
        }
        Wakeground land = new Wakeground();
        land.pass(4, -1, 2);
        Check.due("4 months of 2", land.cellOf(7, 2), 8);
        land.pass(24, -1, 2);
        Check.due("24 months of 2", land.cellOf(7, 2), 9);
    }

    /** "otherwise it has none" */
    private static void otherwiseNone() {
        for (int air : new int[] {0, 1, 30}) {
            for (int snow : new int[] {0, 9}) {
                Wakeground land = new Wakeground();
                land.pass(1, -1, 9);
                land.pass(1, air, snow);
                Check.due("snow after " + air, land.cellOf(7, 2), 0);
            }
        }
    }

    private static void eachCell() {
        Wakeground land = new Wakeground();
        land.pass(1, -1, 5);
        for (int cell = 0; cell < 25; cell++) {
            Check.due("snow of " + cell, land.cellOf(cell, 2), 5);
        }
        land.pass(1, 0, 5);
        for (int cell = 0; cell < 25; cell++) {
            Check.due("no snow of " + cell, land.cellOf(cell, 2), 0);
        }
    }
}
