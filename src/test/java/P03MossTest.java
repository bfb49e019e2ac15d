/** Promise 3: moss. */
public final class P03MossTest {
    public static void main(String[] args) {
        Wakeground land = new Wakeground();
        Check.due("moss(4, 0)", land.moss(4, 0), 2);
        Check.due("moss(4, 3)", land.moss(4, 3), 0);
        Check.due("moss(4, 3) again", land.moss(4, 3), 3);
        Check.due("cellOf(4, 3)", land.cellOf(4, 3), 3);
        Check.due("another cell", land.cellOf(5, 3), 2);
        Check.due("moss(0, 1)", land.moss(0, 1), 2);
        Check.due("moss(24, 1)", land.moss(24, 1), 2);
        Check.noIndex("moss(-1, 0)", land, () -> land.moss(-1, 0));
        Check.noIndex("moss(25, 0)", land, () -> land.moss(25, 0));
        Check.noArgument("moss(0, -1)", land, () -> land.moss(0, -1));
        Check.noArgument("moss(0, 4)", land, () -> land.moss(0, 4));
        Check.noIndex("moss(25, 4)", land, () -> land.moss(25, 4));
        Check.balanced("moss", land);
        Check.end("P03MossTest");
    }
}
