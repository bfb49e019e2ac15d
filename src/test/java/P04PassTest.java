/** Promise 4: pass, but for what happens in a month, which the tests P04Month.. look at. */
public final class P04PassTest {
    public static void main(String[] args) {
        counts();
        oneByOne();
        refused();
        lastMonth();
        Check.end("P04PassTest");
    }

    private static void counts() {
        Wakeground land = new Wakeground();
        Check.due("pass(1, -50, 0)", land.pass(1, -50, 0), 1);
        Check.due("pass(24, 30, 9)", land.pass(24, 30, 9), 25);
        Check.due("month", land.month(), 25);
        Check.balanced("counts", land);
    }

    /** Months that pass alike are the same as so many calls of one month. */
    private static void oneByOne() {
        Wakeground together = new Wakeground();
        Wakeground apart = new Wakeground();
        for (Wakeground land : new Wakeground[] {together, apart}) {
            land.ground(11, 1, 2, 7, 12000, 900);
            land.house(11, 2, false);
            land.borehole(11, 5);
        }
        together.pass(24, 17, 0);
        together.pass(7, -33, 2);
        for (int i = 0; i < 24; i++) {
            apart.pass(1, 17, 0);
        }
        for (int i = 0; i < 7; i++) {
            apart.pass(1, -33, 2);
        }
        Check.alike("one by one", together, apart);
    }

    private static void refused() {
        Wakeground land = new Wakeground();
        Check.noArgument("pass(0, 0, 0)", land, () -> land.pass(0, 0, 0));
        Check.noArgument("pass(-1, 0, 0)", land, () -> land.pass(-1, 0, 0));
        Check.noArgument("pass(25, 0, 0)", land, () -> land.pass(25, 0, 0));
        Check.noArgument("the most months", land, () -> land.pass(Integer.MAX_VALUE, 0, 0));
        Check.noArgument("pass(1, -51, 0)", land, () -> land.pass(1, -51, 0));
        Check.noArgument("pass(1, 31, 0)", land, () -> land.pass(1, 31, 0));
        Check.noArgument("pass(1, 0, -1)", land, () -> land.pass(1, 0, -1));
        Check.noArgument("pass(1, 0, 10)", land, () -> land.pass(1, 0, 10));
    }

    private static void lastMonth() {
        Wakeground old = new Wakeground();
        for (int i = 0; i < 24; i++) {
            old.pass(24, -5, 1);
        }
        Check.due("pass to 599", old.pass(23, -5, 1), 599);
        Check.noState("from 599 to 601", old, () -> old.pass(2, -5, 1));
        Check.due("pass to 600", old.pass(1, -5, 1), 600);
        Check.noState("from 600 to 601", old, () -> old.pass(1, -5, 1));
        Check.noState("from 600 to 624", old, () -> old.pass(24, -5, 1));
        Check.noArgument("months ahead of the last one", old, () -> old.pass(25, -5, 1));
        Check.noArgument("air ahead of the last month", old, () -> old.pass(1, 31, 1));
        Check.noArgument("snow ahead of the last month", old, () -> old.pass(1, 0, 10));
        Check.due("month", old.month(), 600);
        Check.balanced("old", old);
    }
}
