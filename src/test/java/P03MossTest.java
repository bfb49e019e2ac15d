/** Promise 3: moss. */
public final class P03MossTest {
    public static void main(String[] args) {
        returnsWhatItWas();
        eachCell();
        ranges();
        firstException();
        Check.end("P03MossTest");
    }

    /** "Returns what it was." */
    private static void returnsWhatItWas() {
        Wakeground land = new Wakeground();
        int before = 2;
        for (int moss : new int[] {0, 1, 2, 3, 3, 0, 0}) {
            Check.due("moss(4, " + moss + ")", land.moss(4, moss), before);
            Check.due("cellOf(4, 3)", land.cellOf(4, 3), moss);
            before = moss;
        }
        Check.balanced("moss", land);
    }

    private static void eachCell() {
        Wakeground land = new Wakeground();
        for (int cell = 0; cell < 25; cell++) {
            Check.due("moss(" + cell + ", ..)", land.moss(cell, cell % 4), 2);
        }
        for (int cell = 0; cell < 25; cell++) {
            Check.due("cellOf(" + cell + ", 3)", land.cellOf(cell, 3), cell % 4);
        }
    }

    /** "`cell`: 0 to 24", "`moss`: 0 to 3" */
    private static void ranges() {
        Check.indexes("cell", 0, 24, Lands::rich, (land, cell) -> land.moss(cell, 0));
        Check.arguments("moss", 0, 3, Lands::rich, (land, moss) -> land.moss(9, moss));
    }

    /** "the one that is listed first is thrown" */
    private static void firstException() {
        Check.noIndex("moss(25, 4)", Lands::rich, land -> land.moss(25, 4));
        Check.noIndex("moss(-1, -1)", Lands::rich, land -> land.moss(-1, -1));
    }
}
