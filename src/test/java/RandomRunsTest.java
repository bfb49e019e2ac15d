import java.util.Random;

/** Long runs, the same each time, compared with PlainLand; calls that are refused among them. */
public final class RandomRunsTest {
    private final Random random;
    private final int run;
    private final Wakeground land = new Wakeground();
    private final PlainLand plain = new PlainLand();

    private RandomRunsTest(int run) {
        this.run = run;
        random = new Random(run);
    }

    public static void main(String[] args) {
        for (int run = 0; run < 30; run++) {
            new RandomRunsTest(run).calls(400);
        }
        Check.end("RandomRunsTest");
    }

    private void calls(int most) {
        // runs differ in how warm they are, and whether their ground is of ice
        int warm = random.nextInt(31);
        int cold = -random.nextInt(51);
        int longest = run % 3 == 0 ? 24 : 4;
        for (int i = 0; i < most; i++) {
            happen(warm, cold, longest);
            if (i % 10 == 0) {
                compare();
            }
        }
        compare();
    }

    private int any(int below) {
        return random.nextInt(below);
    }

    private void due(String what, long got, long want) {
        Check.due("run " + run + ", month " + plain.month + ": " + what, got, want);
    }

    private void happen(int warm, int cold, int longest) {
        int cell = any(25);
        switch (any(12)) {
            case 0:
            case 1:
            case 2:
                int months = 1 + any(longest);
                int air = any(4) == 0 ? any(81) - 50 : any(2) == 0 ? warm : cold;
                int snow = any(3) == 0 ? any(10) : 0;
                if (plain.month + months <= 600) {
                    plain.pass(months, air, snow);
                    due("pass", land.pass(months, air, snow), plain.month);
                } else {
                    Check.noState("pass", land, () -> land.pass(months, air, snow));
                }
                break;
            case 3:
            case 4:
            case 5:
                int layer = any(5);
                int[] told = {any(10), any(10), any(any(3) == 0 ? 35001 : 6000) - 5000, any(1001)};
                land.ground(cell, layer, told[0], told[1], told[2], told[3]);
                plain.ground(cell, layer, told[0], told[1], told[2], told[3]);
                break;
            case 6:
                due("moss", land.moss(cell, run % 4), plain.moss[cell]);
                plain.moss[cell] = run % 4;
                break;
            case 7:
                if (plain.water[cell] < 3 && plain.snow[cell] == 0) {
                    due("fire", land.fire(cell), plain.fire(cell));
                } else {
                    Check.noState("fire", land, () -> land.fire(cell));
                }
                break;
            case 8:
                if (plain.water[cell] == 0) {
                    Check.noState("breach", land, () -> land.breach(cell));
                } else if (any(3) == 0) {
                    due("breach", land.breach(cell), plain.breach(cell));
                }
                break;
            default:
                build(cell % 8, any(4));
        }
    }

    private void build(int cell, int which) {
        int pile = 1 + any(4);
        int drift = any(25) - 12;
        if (which == 0) {
            boolean isFree = plain.cellOf(cell, 5) < 0 && plain.water[cell] < 3 && plain.houses.size() < 10;
            if (isFree) {
                due("house", land.house(cell, pile, drift > 0), plain.house(cell, pile, drift > 0));
            } else {
                Check.noState("house", land, () -> land.house(cell, pile, drift > 0));
            }
        } else if (which == 1) {
            if (plain.boreholes.size() < 10) {
                due("borehole", land.borehole(cell, drift), plain.borehole(cell, drift));
            } else {
                Check.noState("borehole", land, () -> land.borehole(cell, drift));
            }
        } else if (plain.houses.size() == 0) {
            Check.noIndex("claim", land, () -> land.claim(0));
        } else {
            int house = any(plain.houses.size());
            if (plain.claims.size() < 40) {
                due("claim", land.claim(house), plain.claim(house));
            } else {
                Check.noState("claim", land, () -> land.claim(house));
            }
        }
    }

    private void compare() {
        due("month", land.month(), plain.month);
        due("lakes", land.lakes(), plain.lakes());
        for (int cell = 0; cell < 25; cell++) {
            for (int what = 0; what < 8; what++) {
                due("cellOf(" + cell + ", " + what + ")", land.cellOf(cell, what), plain.cellOf(cell, what));
            }
            for (int layer = 0; layer < 5; layer++) {
                for (int what = 0; what < 6; what++) {
                    due("layerOf(" + cell + ", " + layer + ", " + what + ")",
                            land.layerOf(cell, layer, what), plain.layerOf(cell, layer, what));
                }
            }
        }
        for (int kind = 0; kind < 3; kind++) {
            for (int what = 0; what < 4; what++) {
                due("balance(" + kind + ", " + what + ")", land.balance(kind, what), plain.balance(kind, what));
            }
            due("balance(" + kind + ", 3)", land.balance(kind, 3), 0);
        }
        due("air(SMOKE)", land.air(0), plain.gases[0]);
        due("air(MARSH)", land.air(1), plain.gases[1]);
        compareBuilt();
    }

    private void compareBuilt() {
        for (int house = 0; house < plain.houses.size(); house++) {
            for (int what = 0; what < 4; what++) {
                due("houseOf(" + house + ", " + what + ")", land.houseOf(house, what),
                        plain.houses.get(house)[what]);
            }
            due("houseOf(" + house + ", 4)", land.houseOf(house, 4), plain.claimNow(house));
        }
        for (int borehole = 0; borehole < plain.boreholes.size(); borehole++) {
            int sunk = (int) plain.boreholes.get(borehole)[2];
            for (int month = sunk; month < plain.month; month++) {
                for (int layer = 0; layer < 5; layer++) {
                    due("reading(" + borehole + ", " + month + ", " + layer + ")",
                            land.reading(borehole, month, layer),
                            plain.readings.get(borehole).get(month - sunk)[layer]);
                }
            }
        }
        for (int claim = 0; claim < plain.claims.size(); claim++) {
            due("claimOf(" + claim + ")", land.claimOf(claim), plain.claims.get(claim));
            due("claimAnew(" + claim + ")", land.claimAnew(claim), plain.claims.get(claim));
        }
    }
}
