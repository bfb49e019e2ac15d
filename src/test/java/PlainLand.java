import java.util.ArrayList;
import java.util.Arrays;
import java.util.List;

/**
 * The document written down a second time, with no thought of speed or of
 * LANGUAGE.md, for long runs to be compared. It knows no exceptions: it is
 * called only where none is due, as RandomRunsTest finds.
 */
final class PlainLand {
    static final int PORE = 0, EXCESS = 1, ENERGY = 2, CARBON = 3;

    long[][][] layers = new long[25][5][];
    long[] height = new long[25], water = new long[25], snow = new long[25], moss = new long[25];
    long[] wedges = new long[25];
    List<long[]> houses = new ArrayList<>(); // cell, pile, tilt, built, is cooled
    List<long[]> boreholes = new ArrayList<>(); // cell, drift, sunk
    List<List<long[]>> readings = new ArrayList<>();
    List<Long> claims = new ArrayList<>();
    int month;
    long[] gases = new long[2];
    long[] brought = new long[3];
    long drained;

    PlainLand() {
        Arrays.fill(height, 100);
        Arrays.fill(moss, 2);
        for (long[][] cell : layers) {
            for (int layer = 0; layer < 5; layer++) {
                cell[layer] = new long[] {5, new int[] {0, 2, 3, 2, 0}[layer], -1000, 400};
            }
        }
    }

    void ground(int cell, int layer, int pore, int excess, int energy, int carbon) {
        long[] old = layers[cell][layer];
        brought[0] += energy - old[ENERGY];
        brought[1] += pore + excess - old[PORE] - old[EXCESS];
        brought[2] += carbon - old[CARBON];
        layers[cell][layer] = new long[] {pore, excess, energy, carbon};
    }

    long fire(int cell) {
        moss[cell] = 0;
        long half = Math.floorDiv(layers[cell][0][CARBON], 2L);
        layers[cell][0][CARBON] -= half;
        gases[0] += half;
        return half;
    }

    boolean[] lake(int cell) {
        boolean[] in = new boolean[25];
        in[cell] = water[cell] > 0;
        for (int again = 0; again < 25; again++) {
            for (int a = 0; a < 25; a++) {
                for (int b = 0; b < 25; b++) {
                    in[b] |= in[a] && water[b] > 0 && isBeside(a, b);
                }
            }
        }
        return in;
    }

    static boolean isBeside(int a, int b) {
        return Math.abs(a / 5 - b / 5) + Math.abs(a % 5 - b % 5) == 1;
    }

    static int neighbour(int cell, int at) {
        int left = at;
        for (int other = 0; other < 25; other++) {
            if (isBeside(cell, other) && left-- == 0) {
                return other;
            }
        }
        return -1;
    }

    long breach(int cell) {
        boolean[] in = lake(cell);
        long units = 0;
        for (int i = 0; i < 25; i++) {
            if (in[i]) {
                units += water[i];
                water[i] = 0;
            }
        }
        drained += units;
        return units;
    }

    int house(int cell, int pile, boolean isCooled) {
        houses.add(new long[] {cell, pile, 0, month, isCooled ? 1 : 0});
        return houses.size() - 1;
    }

    int borehole(int cell, int drift) {
        boreholes.add(new long[] {cell, drift, month});
        readings.add(new ArrayList<>());
        return boreholes.size() - 1;
    }

    int claim(int house) {
        claims.add(claimNow(house));
        return claims.size() - 1;
    }

    long claimNow(int house) {
        long[] asked = houses.get(house);
        long count = 0;
        for (long at = asked[3]; at < month; at++) {
            boolean isWarm = false;
            for (int i = 0; i < boreholes.size(); i++) {
                long[] borehole = boreholes.get(i);
                if (borehole[0] == asked[0] && borehole[2] <= at) {
                    isWarm |= readings.get(i).get((int) (at - borehole[2]))[(int) asked[1]] >= 0;
                }
            }
            count += isWarm ? 1 : 0;
        }
        return 100 * Math.min(asked[2], count);
    }

    long temperature(int cell, int layer) {
        long energy = layers[cell][layer][ENERGY];
        long units = layers[cell][layer][PORE] + layers[cell][layer][EXCESS];
        if (energy < 0) {
            return -Math.floorDiv(-energy, 100L);
        }
        return Math.max(0, Math.floorDiv(energy - 1000 * units, 100L));
    }

    long melted(int cell, int layer) {
        long units = layers[cell][layer][PORE] + layers[cell][layer][EXCESS];
        return Math.min(units, Math.max(0, Math.floorDiv(layers[cell][layer][ENERGY], 1000L)));
    }

    void pass(int months, int air, int snowing) {
        for (int i = 0; i < months; i++) {
            one(air, snowing);
            heat(air);
            three();
            four();
            five(air);
            six(air);
            for (long[] house : houses) {
                house[2] += layers[(int) house[0]][(int) house[1]][ENERGY] >= 0 ? 1 : 0;
            }
            eight();
            month++;
        }
    }

    private void one(int air, int snowing) {
        for (int cell = 0; cell < 25; cell++) {
            snow[cell] = air < 0 ? Math.min(9, snow[cell] + snowing) : 0;
        }
    }

    private void heat(int air) {
        long[][] ahead = new long[25][5];
        for (int cell = 0; cell < 25; cell++) {
            for (int layer = 0; layer < 5; layer++) {
                ahead[cell][layer] = temperature(cell, layer);
            }
        }
        for (int cell = 0; cell < 25; cell++) {
            long led = Math.floorDiv(60L, 2 + snow[cell] + 2 * moss[cell]);
            long above = air;
            if (water[cell] >= 3) {
                led = 30;
                above = Math.max(0, air);
            }
            long in = led * (above - ahead[cell][0]);
            layers[cell][0][ENERGY] += in;
            for (int layer = 0; layer < 4; layer++) {
                long down = 20 * (ahead[cell][layer] - ahead[cell][layer + 1]);
                layers[cell][layer][ENERGY] -= down;
                layers[cell][layer + 1][ENERGY] += down;
            }
            layers[cell][4][ENERGY] += 10;
            brought[0] += in + 10;
        }
        for (long[] house : houses) {
            long in = 300 - (house[4] == 1 && air < 0 ? 300 : 0);
            layers[(int) house[0]][0][ENERGY] += in;
            brought[0] += in;
        }
    }

    private void three() {
        for (int cell = 0; cell < 25; cell++) {
            for (int layer = 0; layer < 5; layer++) {
                while (melted(cell, layer) > layers[cell][layer][PORE]) {
                    layers[cell][layer][EXCESS]--;
                    layers[cell][layer][ENERGY] -= 1000;
                    height[cell]--;
                    water[cell]++;
                }
            }
        }
    }

    private void four() {
        for (int cell = 0; cell < 25; cell++) {
            int lowest = -1;
            for (int other = 24; other >= 0; other--) {
                if (isBeside(cell, other) && (lowest < 0 || level(other) <= level(lowest))) {
                    lowest = other;
                }
            }
            long flow = Math.min(water[cell], Math.max(0, Math.floorDiv(level(cell) - level(lowest), 2L)));
            water[cell] -= flow;
            water[lowest] += flow;
        }
    }

    private long level(int cell) {
        return height[cell] + water[cell];
    }

    private void five(int air) {
        int coldest = 24;
        for (int cell = 24; cell >= 0; cell--) {
            if (temperature(cell, 1) <= temperature(coldest, 1)) {
                coldest = cell;
            }
        }
        if (air > -20 || temperature(coldest, 1) > -10) {
            return;
        }
        wedges[coldest]++;
        if (water[coldest] >= 1 && layers[coldest][1][EXCESS] < 9) {
            water[coldest]--;
            height[coldest]++;
            layers[coldest][1][EXCESS]++;
            layers[coldest][1][ENERGY] += 1000;
        }
    }

    private void six(int air) {
        for (int cell = 0; cell < 25; cell++) {
            boolean isLake = water[cell] >= 3;
            for (int layer = 0; layer < 5; layer++) {
                long carbon = layers[cell][layer][CARBON];
                if (temperature(cell, layer) > 0) {
                    long woken = Math.min(carbon, Math.floorDiv(temperature(cell, layer) * carbon, 1000L));
                    layers[cell][layer][CARBON] -= woken;
                    gases[isLake ? 1 : 0] += woken;
                }
            }
            if (air > 0 && !isLake) {
                layers[cell][0][CARBON] += moss[cell];
                gases[0] -= moss[cell];
            }
        }
    }

    private void eight() {
        for (int i = 0; i < boreholes.size(); i++) {
            long[] borehole = boreholes.get(i);
            long drifted = (long) (borehole[1] * (month - borehole[2] + 1) / 12.0);
            long[] read = new long[5];
            for (int layer = 0; layer < 5; layer++) {
                read[layer] = temperature((int) borehole[0], layer) + drifted;
            }
            readings.get(i).add(read);
        }
    }

    long lakes() {
        boolean[] seen = new boolean[25];
        long count = 0;
        for (int cell = 0; cell < 25; cell++) {
            if (water[cell] >= 3 && !seen[cell]) {
                count++;
                boolean[] in = lake(cell);
                for (int i = 0; i < 25; i++) {
                    seen[i] |= in[i];
                }
            }
        }
        return count;
    }

    long cellOf(int cell, int what) {
        int house = houseIn(cell);
        int size = 0;
        if (what == 6) {
            for (boolean in : lake(cell)) {
                size += in ? 1 : 0;
            }
        }
        int thawed = 0;
        for (int layer = 0; layer < 5 && layers[cell][layer][ENERGY] >= 0; layer++) {
            thawed++;
        }
        return new long[] {height[cell], water[cell], snow[cell], moss[cell], wedges[cell], house, size,
                thawed}[what];
    }

    int houseIn(int cell) {
        for (int i = 0; i < houses.size(); i++) {
            if (houses.get(i)[0] == cell) {
                return i;
            }
        }
        return -1;
    }

    long layerOf(int cell, int layer, int what) {
        long[] asked = layers[cell][layer];
        return new long[] {temperature(cell, layer), asked[ENERGY], asked[PORE], asked[EXCESS],
                asked[CARBON], melted(cell, layer)}[what];
    }

    long balance(int kind, int what) {
        long now = 0;
        for (int cell = 0; cell < 25; cell++) {
            now += new long[] {1000 * water[cell], water[cell], 0}[kind];
            for (long[] layer : layers[cell]) {
                now += new long[] {layer[ENERGY], layer[PORE] + layer[EXCESS], layer[CARBON]}[kind];
            }
        }
        long came = brought[kind] + new long[] {-125000, 800, 50000}[kind];
        long left = new long[] {1000 * drained, drained, gases[0] + gases[1]}[kind];
        return new long[] {now, came, left, came - now - left}[what];
    }
}
