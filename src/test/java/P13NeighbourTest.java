/** Promise 13: neighbour. */
public final class P13NeighbourTest {
    public static void main(String[] args) {
        byRisingNumbers();
        atTheEdges();
        behindTheLastOne();
        ranges();
        Check.end("P13NeighbourTest");
    }

    /** "those side by side in a row or a column", "by rising numbers" */
    private static void byRisingNumbers() {
        for (int cell = 0; cell < 25; cell++) {
            Wakeground land = new Wakeground();
            int at = 0;
            for (int other = 0; other < 25; other++) {
                if (PlainLand.isBeside(cell, other)) {
                    Check.due("neighbour(" + cell + ", " + at + ")", land.neighbour(cell, at), other);
                    at++;
                }
            }
            Check.due("neighbour(" + cell + ", " + at + ")", land.neighbour(cell, at), Wakeground.NONE);
        }
    }

    private static void neighbours(int cell, int... due) {
        Wakeground land = new Wakeground();
        for (int at = 0; at < due.length; at++) {
            Check.due("neighbour(" + cell + ", " + at + ")", land.neighbour(cell, at), due[at]);
        }
    }

    /** "five rows of five, the cells 0 to 4 in the first one" */
    private static void atTheEdges() {
        neighbours(0, 1, 5, -1, -1);
        neighbours(4, 3, 9, -1, -1);
        neighbours(20, 15, 21, -1, -1);
        neighbours(24, 19, 23, -1, -1);
        neighbours(2, 1, 3, 7, -1);
        neighbours(5, 0, 6, 10, -1);
        neighbours(9, 4, 8, 14, -1);
        neighbours(10, 5, 11, 15, -1);
        neighbours(14, 9, 13, 19, -1);
        neighbours(15, 10, 16, 20, -1);
        neighbours(19, 14, 18, 24, -1);
        neighbours(22, 17, 21, 23, -1);
        neighbours(12, 7, 11, 13, 17, -1);
    }

    /** "NONE behind the last one" */
    private static void behindTheLastOne() {
        Wakeground land = new Wakeground();
        for (int cell = 0; cell < 25; cell++) {
            for (int at : new int[] {4, 5, 24, 25, 1000, Integer.MAX_VALUE}) {
                Check.due("neighbour(" + cell + ", " + at + ")", land.neighbour(cell, at), Wakeground.NONE);
            }
        }
    }

    /** "if there is no such cell, or at is below 0" */
    private static void ranges() {
        Check.indexes("cell", 0, 24, Lands::rich, (land, cell) -> land.neighbour(cell, 0));
        Check.indexes("cell, far behind", 0, 24, Lands::rich, (land, cell) -> land.neighbour(cell, 9));
        for (int at : new int[] {-1, -2, Integer.MIN_VALUE}) {
            Check.noIndex("at " + at, Lands::rich, land -> land.neighbour(12, at));
            Check.noIndex("at " + at + " in the corner", Lands::rich, land -> land.neighbour(24, at));
            Check.noIndex("both", Lands::rich, land -> land.neighbour(25, at));
        }
    }
}
