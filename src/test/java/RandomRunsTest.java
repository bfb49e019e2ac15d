import java.util.Random;
import java.util.function.Consumer;
import java.util.function.LongSupplier;
import java.util.function.ToLongFunction;

/**
 * Long runs of 512 calls, the same each time, each answer compared with that of
 * PlainLand; some of the calls have arguments that are out of range, or come
 * when they are not due, so that an exception must be thrown, and just that.
 */
public final class RandomRunsTest {
    private static final int RUNS = 600;
    private static final int CALLS = 512;

    private final Random random;
    private final int run;
    private final Wakeground land = new Wakeground();
    private final PlainLand plain = new PlainLand();
    private final int warm;
    private final int cold;
    private final int longest;
    private final int often;
    private int called;

    private RandomRunsTest(int run) {
        this.run = run;
        random = new Random(run);
        // runs differ in how warm they are, in how fast they go by, and in what happens often
        warm = any(31);
        cold = -any(51);
        longest = run % 3 == 0 ? 24 : 3;
        often = any(12);
    }

    public static void main(String[] args) {
        for (int run = 0; run < RUNS; run++) {
            new RandomRunsTest(run).calls();
        }
        Check.end("RandomRunsTest");
    }

    private void calls() {
        while (called < CALLS) {
            if (any(2) == 0) {
                happen();
            } else {
                ask();
            }
        }
    }

    private int any(int below) {
        return random.nextInt(below);
    }

    /** One of the range as a rule; sometimes one beside it or far from it, on either side. */
    private int from(int least, int most) {
        switch (any(40)) {
            case 0:
                return least - 1;
            case 1:
                return most + 1;
            case 2:
                return least;
            case 3:
                return most;
            case 4:
                return any(2) == 0 ? Integer.MIN_VALUE + any(700) : Integer.MAX_VALUE - any(700);
            default:
                return least + any(Math.max(most - least + 1, 1));
        }
    }

    private static boolean isIn(int value, int least, int most) {
        return least <= value && value <= most;
    }

    /** Compares a call; the exceptions are in the order in which the document lists them. */
    private void call(String what, boolean noIndex, boolean noArgument, boolean noState,
            ToLongFunction<Wakeground> asked, LongSupplier due) {
        called++;
        long got = Questions.answer(land, asked);
        long want = noIndex ? Questions.NO_INDEX : noArgument ? Questions.NO_ARGUMENT
                : noState ? Questions.NO_STATE : due.getAsLong();
        Check.due("run " + run + ", month " + plain.month + ": " + what, got, want);
    }

    private void happen() {
        switch (any(4) == 0 ? often : any(12)) {
            case 0:
            case 1:
            case 2:
                pass();
                break;
            case 3:
            case 4:
            case 5:
                ground();
                break;
            case 6:
                moss();
                break;
            case 7:
                fire();
                break;
            case 8:
                breach();
                break;
            case 9:
                house();
                break;
            case 10:
                borehole();
                break;
            default:
                claim();
        }
    }

    private void pass() {
        int months = from(1, any(9) == 0 ? 24 : longest);
        int air = any(4) == 0 ? from(-50, 30) : any(2) == 0 ? warm : cold;
        int snow = any(3) == 0 ? from(0, 9) : 0;
        boolean noArgument = !isIn(months, 1, 24) || !isIn(air, -50, 30) || !isIn(snow, 0, 9);
        call("pass", false, noArgument, plain.month + months > 600, made -> made.pass(months, air, snow), () -> {
            plain.pass(months, air, snow);
            return plain.month;
        });
    }

    private void ground() {
        int cell = from(0, 24);
        int layer = from(0, 4);
        int pore = from(0, 9);
        int excess = from(0, 9);
        int energy = any(3) == 0 ? from(-5000, 30000) : any(2) == 0 ? any(9000) - 2000 : 1000 * any(20);
        int carbon = from(0, 1000);
        boolean noArgument = !isIn(pore, 0, 9) || !isIn(excess, 0, 9) || !isIn(energy, -5000, 30000)
                || !isIn(carbon, 0, 1000);
        Consumer<Wakeground> tell = made -> made.ground(cell, layer, pore, excess, energy, carbon);
        call("ground", !isIn(cell, 0, 24) || !isIn(layer, 0, 4), noArgument, false, made -> {
            tell.accept(made);
            return 0;
        }, () -> {
            plain.ground(cell, layer, pore, excess, energy, carbon);
            return 0;
        });
    }

    private void moss() {
        int cell = from(0, 24);
        int moss = from(0, 3);
        call("moss", !isIn(cell, 0, 24), !isIn(moss, 0, 3), false, made -> made.moss(cell, moss), () -> {
            long before = plain.moss[cell];
            plain.moss[cell] = moss;
            return before;
        });
    }

    private void fire() {
        int cell = from(0, 24);
        boolean noIndex = !isIn(cell, 0, 24);
        boolean noState = !noIndex && (plain.water[cell] >= 3 || plain.snow[cell] > 0);
        call("fire", noIndex, false, noState, made -> made.fire(cell), () -> plain.fire(cell));
    }

    private void breach() {
        int cell = any(3) == 0 ? from(0, 24) : any(7);
        boolean noIndex = !isIn(cell, 0, 24);
        boolean noState = !noIndex && plain.water[cell] == 0;
        call("breach", noIndex, false, noState, made -> made.breach(cell), () -> plain.breach(cell));
    }

    private void house() {
        int cell = any(3) == 0 ? from(0, 24) : any(12);
        int pile = from(1, 4);
        boolean isCooled = any(2) == 0;
        boolean noIndex = !isIn(cell, 0, 24) || !isIn(pile, 1, 4);
        boolean noState = !noIndex
                && (plain.houseIn(cell) >= 0 || plain.water[cell] >= 3 || plain.houses.size() == 10);
        call("house", noIndex, false, noState, made -> made.house(cell, pile, isCooled),
                () -> plain.house(cell, pile, isCooled));
    }

    private void borehole() {
        int cell = any(3) == 0 ? from(0, 24) : any(12);
        int drift = from(-12, 12);
        call("borehole", !isIn(cell, 0, 24), !isIn(drift, -12, 12), plain.boreholes.size() == 10,
                made -> made.borehole(cell, drift), () -> plain.borehole(cell, drift));
    }

    private void claim() {
        int house = from(0, plain.houses.size() - 1);
        call("claim", !isIn(house, 0, plain.houses.size() - 1), false, plain.claims.size() == 40,
                made -> made.claim(house), () -> plain.claim(house));
    }

    private void ask() {
        switch (any(14)) {
            case 0:
            case 1:
            case 2:
                cellOf();
                break;
            case 3:
            case 4:
            case 5:
            case 6:
                layerOf();
                break;
            case 7:
                neighbour();
                break;
            case 8:
                if (any(3) == 0) {
                    call("month", false, false, false, made -> made.month(), () -> plain.month);
                } else {
                    call("lakes", false, false, false, made -> made.lakes(), () -> plain.lakes());
                }
                break;
            case 9:
                houseOf();
                break;
            case 10:
                reading();
                break;
            case 11:
                claimOf();
                break;
            case 12:
                balance();
                break;
            default:
                int gas = from(0, 1);
                call("air", false, !isIn(gas, 0, 1), false, made -> made.air(gas), () -> plain.gases[gas]);
        }
    }

    private void cellOf() {
        int cell = from(0, 24);
        int what = from(0, 7);
        call("cellOf(" + cell + ", " + what + ")", !isIn(cell, 0, 24), !isIn(what, 0, 7), false,
                made -> made.cellOf(cell, what), () -> plain.cellOf(cell, what));
    }

    private void layerOf() {
        int cell = from(0, 24);
        int layer = from(0, 4);
        int what = from(0, 5);
        call("layerOf(" + cell + ", " + layer + ", " + what + ")", !isIn(cell, 0, 24) || !isIn(layer, 0, 4),
                !isIn(what, 0, 5), false, made -> made.layerOf(cell, layer, what),
                () -> plain.layerOf(cell, layer, what));
    }

    private void neighbour() {
        int cell = from(0, 24);
        int at = from(0, 5);
        call("neighbour(" + cell + ", " + at + ")", !isIn(cell, 0, 24) || at < 0, false, false,
                made -> made.neighbour(cell, at), () -> PlainLand.neighbour(cell, at));
    }

    private void houseOf() {
        int last = plain.houses.size() - 1;
        int house = from(0, last);
        int what = from(0, 4);
        call("houseOf(" + house + ", " + what + ")", !isIn(house, 0, last), !isIn(what, 0, 4), false,
                made -> made.houseOf(house, what),
                () -> what == 4 ? plain.claimNow(house) : plain.houses.get(house)[what]);
    }

    private void reading() {
        int last = plain.boreholes.size() - 1;
        int borehole = from(0, last);
        boolean isThere = isIn(borehole, 0, last);
        int sunk = isThere ? (int) plain.boreholes.get(borehole)[2] : 0;
        int month = from(sunk, plain.month - 1);
        int layer = from(0, 4);
        boolean noIndex = !isThere || !isIn(month, sunk, plain.month - 1) || !isIn(layer, 0, 4);
        call("reading(" + borehole + ", " + month + ", " + layer + ")", noIndex, false, false,
                made -> made.reading(borehole, month, layer),
                () -> plain.readings.get(borehole).get(month - sunk)[layer]);
    }

    private void claimOf() {
        int last = plain.claims.size() - 1;
        int claim = from(0, last);
        boolean isAnew = any(2) == 0;
        call("claim " + claim, !isIn(claim, 0, last), false, false,
                made -> isAnew ? made.claimAnew(claim) : made.claimOf(claim), () -> plain.claims.get(claim));
    }

    private void balance() {
        int kind = from(0, 2);
        int what = from(0, 3);
        call("balance(" + kind + ", " + what + ")", false, !isIn(kind, 0, 2) || !isIn(what, 0, 3), false,
                made -> made.balance(kind, what), () -> plain.balance(kind, what));
    }
}
