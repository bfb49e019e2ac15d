/** Promise 4: pass, but for what happens in a month, which the tests P04Month.. look at. */
public final class P04PassTest {
    public static void main(String[] args) {
        returnsTheMonth();
        months();
        air();
        snow();
        alikeMonths();
        lastMonth();
        lastMonths();
        firstException();
        Check.end("P04PassTest");
    }

    /** "Returns the month then." */
    private static void returnsTheMonth() {
        Wakeground land = new Wakeground();
        Check.due("pass(1, ..)", land.pass(1, -50, 0), 1);
        Check.due("pass(24, ..)", land.pass(24, 30, 9), 25);
        Check.due("pass(2, ..)", land.pass(2, 0, 0), 27);
        Check.due("month", land.month(), 27);
        Check.balanced("months", land);
    }

    /** "`months`: 1 to 24" */
    private static void months() {
        for (int months : new int[] {1, 2, 23, 24}) {
            Wakeground land = new Wakeground();
            land.borehole(0, 12);
            Check.due("pass(" + months + ", ..)", land.pass(months, -10, 0), months);
            Check.due("read in the last of them", land.reading(0, months - 1, 1), land.layerOf(0, 1, 0) + months);
        }
        Check.arguments("months", 1, 24, Lands::rich, (land, months) -> land.pass(months, -7, 1));
    }

    /** "`air`: -50 to 30" */
    private static void air() {
        int[] air = {-50, -49, 29, 30};
        int[] led = {-400, -390, 390, 400};
        for (int i = 0; i < air.length; i++) {
            Wakeground land = new Wakeground();
            land.pass(1, air[i], 0);
            Check.due("air " + air[i], land.layerOf(0, 0, 1), -1000 + led[i]);
        }
        Check.arguments("air", -50, 30, Lands::rich, (land, degrees) -> land.pass(2, degrees, 1));
    }

    /** "`snow`: 0 to 9" */
    private static void snow() {
        for (int snow : new int[] {0, 1, 8, 9}) {
            Wakeground land = new Wakeground();
            land.pass(1, -10, snow);
            Check.due("snow " + snow, land.cellOf(0, 2), snow);
        }
        Check.arguments("snow", 0, 9, Lands::rich, (land, snow) -> land.pass(2, -7, snow));
        Check.noArgument("snow 10 while it is warm", Lands::rich, land -> land.pass(1, 7, 10));
        Check.noArgument("snow -1 while it is warm", Lands::rich, land -> land.pass(1, 7, -1));
    }

    private static Wakeground begun() {
        Wakeground land = new Wakeground();
        land.ground(11, 1, 2, 7, 12000, 900);
        land.house(11, 2, false);
        land.borehole(11, 5);
        return land;
    }

    /** "Lets months pass, alike": the same as so many calls of one month. */
    private static void alikeMonths() {
        Check.alike("months that pass alike", () -> {
            Wakeground land = begun();
            land.pass(24, 17, 0);
            land.pass(7, -33, 2);
            return land;
        }, () -> {
            Wakeground land = begun();
            for (int i = 0; i < 31; i++) {
                land.pass(1, i < 24 ? 17 : -33, i < 24 ? 0 : 2);
            }
            return land;
        });
    }

    /** "Months are counted from 0, at most 600." */
    private static void lastMonth() {
        Wakeground land = Lands.old(598);
        Check.due("to 599", land.pass(1, -5, 1), 599);
        Check.due("to 600", land.pass(1, -5, 1), 600);
        Check.due("month", land.month(), 600);
        Check.balanced("600 months", land);
        Check.noState("from 600 to 601", () -> Lands.old(600), made -> made.pass(1, -5, 1));
        Check.noState("from 599 to 601", () -> Lands.old(599), made -> made.pass(2, -5, 1));
        Check.noState("from 600 to 624", () -> Lands.old(600), made -> made.pass(24, -5, 1));
    }

    /** "`IllegalStateException` if it would be above 600": then not one of the months passes. */
    private static void lastMonths() {
        Check.due("from 576 to 600", Lands.old(576).pass(24, -5, 1), 600);
        Check.due("from 577 to 600", Lands.old(577).pass(23, -5, 1), 600);
        Check.noState("from 577 to 601", () -> Lands.old(577), made -> made.pass(24, 25, 1));
    }

    /** "the one that is listed first is thrown" */
    private static void firstException() {
        Check.noArgument("months 25 at 600", () -> Lands.old(600), land -> land.pass(25, -5, 1));
        Check.noArgument("months 0 at 600", () -> Lands.old(600), land -> land.pass(0, -5, 1));
        Check.noArgument("the most months at 600", () -> Lands.old(600),
                land -> land.pass(Integer.MAX_VALUE, -5, 1));
        Check.noArgument("air 31 at 600", () -> Lands.old(600), land -> land.pass(1, 31, 1));
        Check.noArgument("air -51 at 599", () -> Lands.old(599), land -> land.pass(2, -51, 1));
        Check.noArgument("snow 10 at 600", () -> Lands.old(600), land -> land.pass(1, 0, 10));
        Check.noArgument("snow -1 at 600", () -> Lands.old(600), land -> land.pass(1, 0, -1));
    }
}
