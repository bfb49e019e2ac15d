/** Promise 14: lakes. */
public final class P14LakesTest {
    public static void main(String[] args) {
        none();
        fromThreeUnitsOn();
        atLeastOneLakeCell();
        eachPair();
        several();
        drained();
        Check.end("P14LakesTest");
    }

    /** "how many lakes there are": none */
    private static void none() {
        Check.due("no water", new Wakeground().lakes(), 0);
    }

    /** "A cell with 3 units of water or more is a LAKE." */
    private static void fromThreeUnitsOn() {
        for (int units = 1; units <= 9; units++) {
            Check.due(units + " units", Lands.pond(12, units).lakes(), units < 3 ? 0 : 1);
        }
        for (int cell = 0; cell < 25; cell++) {
            Check.due("2 units in " + cell, Lands.pond(cell, 2).lakes(), 0);
            Check.due("3 units in " + cell, Lands.pond(cell, 3).lakes(), 1);
        }
    }

    /** "lakes .. that have at least one LAKE" */
    private static void atLeastOneLakeCell() {
        int[] cells = {12, 13, 14};
        int[][] units = {{2, 2, 2}, {3, 2, 2}, {2, 3, 2}, {2, 2, 3}, {3, 3, 2}, {3, 1, 3}, {3, 3, 3}};
        for (int i = 0; i < units.length; i++) {
            Wakeground land = new Wakeground();
            Lands.ponds(land, cells, units[i]);
            Check.due("lakes " + i, land.lakes(), i == 0 ? 0 : 1);
            Check.due("cells " + i, land.cellOf(13, 6), 3);
        }
    }

    /** Two LAKEs are one lake side by side, and two otherwise; at the edges of the land too. */
    private static void eachPair() {
        for (int one = 0; one < 25; one++) {
            for (int other = one + 1; other < 25; other++) {
                Wakeground land = new Wakeground();
                Lands.ponds(land, new int[] {one, other}, new int[] {3, 3});
                Check.due(one + " and " + other, land.lakes(), PlainLand.isBeside(one, other) ? 1 : 2);
            }
        }
    }

    private static void several() {
        Wakeground land = new Wakeground();
        Lands.ponds(land, new int[] {4, 5, 0, 6, 18, 19, 24, 20, 16, 22},
                new int[] {3, 4, 1, 5, 3, 9, 1, 2, 1, 3});
        Check.due("lakes", land.lakes(), 4);
        // each second cell, as on a chessboard: none of them side by side
        Wakeground board = new Wakeground();
        for (int cell = 0; cell < 25; cell += 2) {
            Lands.melt(board, cell, 3);
        }
        board.pass(1, -10, 0);
        Check.due("as on a chessboard", board.lakes(), 13);
        for (int cell = 1; cell < 25; cell += 2) {
            Lands.melt(board, cell, 1);
        }
        board.pass(1, 0, 0);
        Check.due("all in one", board.cellOf(7, 6), 25);
        Check.due("all one", board.lakes(), 1);
    }

    private static void drained() {
        Wakeground land = new Wakeground();
        Lands.ponds(land, new int[] {0, 24}, new int[] {3, 3});
        Check.due("two", land.lakes(), 2);
        land.breach(0);
        Check.due("one", land.lakes(), 1);
        land.breach(24);
        Check.due("none", land.lakes(), 0);
    }
}
