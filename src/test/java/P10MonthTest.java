/** Promise 10: month. */
public final class P10MonthTest {
    public static void main(String[] args) {
        fromZeroTo600();
        byPassAlone();
        Check.end("P10MonthTest");
    }

    /** "Months are counted from 0, at most 600." */
    private static void fromZeroTo600() {
        Wakeground land = new Wakeground();
        Check.due("month at first", land.month(), 0);
        int month = 0;
        while (month < 600) {
            int months = Math.min(1 + month % 24, 600 - month);
            land.pass(months, -10, 0);
            month += months;
            Check.due("month", land.month(), month);
        }
        Check.due("month at last", land.month(), 600);
    }

    private static void byPassAlone() {
        Wakeground land = new Wakeground();
        land.pass(3, -10, 0);
        land.ground(0, 0, 5, 0, 0, 0);
        land.fire(0);
        land.house(0, 1, true);
        land.borehole(0, 1);
        land.claim(0);
        land.moss(0, 1);
        Check.due("month", land.month(), 3);
        Wakeground pond = Lands.pond(12, 3);
        pond.breach(12);
        Check.due("month of a breach", pond.month(), 1);
    }
}
