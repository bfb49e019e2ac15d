import java.util.ArrayList;

/**
 * Frozen ground that wakes: a land of 25 cells with five layers each, through
 * which heat is led month by month. Heat, water and carbon are whole numbers,
 * so that each of them balances exactly.
 */
public final class Wakeground {
    /** There is none. */
    public static final int NONE = -1;
    /** What is in the air. */
    public static final int SMOKE = 0, MARSH = 1;

    private static final int SIDE = 5;
    private static final int CELLS = SIDE * SIDE;
    private static final int LAYERS = 5;
    private static final int LAST_MONTH = 600;
    private static final int MOST_HOUSES = 10;
    private static final int MOST_BOREHOLES = 10;
    private static final int MOST_CLAIMS = 40;
    private static final int MOST_UNITS = 9;
    private static final int MOST_SNOW = 9;
    private static final int MOST_MOSS = 3;
    private static final int MOST_DRIFT = 12;
    private static final int LAKE_WATER = 3;
    private static final int UNIT_HEAT = 1000;
    private static final int DEGREE_HEAT = 100;
    private static final int HOUSE_HEAT = 300;
    private static final int HEAT_FROM_BELOW = 10;
    private static final int CRACKING_LAYER = 1;

    private static final int HEAT = 0;
    private static final int WATER = 1;
    private static final int KINDS = 3;

    /** From a cell to its neighbours, by rising numbers. */
    private static final int[] STEPS = {-5, -1, 1, 5};

    private final Cell[] cells = new Cell[CELLS];
    private final ArrayList<House> houses = new ArrayList<>();
    private final ArrayList<Borehole> boreholes = new ArrayList<>();
    private final ArrayList<Claim> claims = new ArrayList<>();
    private int month;

    /** Heat, water and carbon that were there at first or came since. */
    private final long[] came = new long[KINDS];
    private final long[] gases = new long[2];
    private long drained;

    /** The cells of the lake that was gathered last; made once and used again. */
    private final int[] lakeCells = new int[CELLS];
    private final boolean[] isGathered = new boolean[CELLS];

    /** Makes the land as at first, in the month 0. */
    public Wakeground() {
        for (int i = 0; i < cells.length; i++) {
            cells[i] = new Cell();
        }
        for (int kind = 0; kind < came.length; kind++) {
            came[kind] = amountInLand(kind);
        }
    }

    // ---- what happens

    /** Tells ground: gives a layer other units, energy and carbon. */
    public void ground(int cell, int layer, int pore, int excess, int energy, int carbon)
            throws IndexOutOfBoundsException, IllegalArgumentException {
        needIndex(cell, CELLS);
        needIndex(layer, LAYERS);
        needRange(pore, 0, MOST_UNITS);
        needRange(excess, 0, MOST_UNITS);
        needRange(energy, -5000, 30000);
        needRange(carbon, 0, 1000);
        Layer told = cells[cell].layers[layer];
        for (int kind = 0; kind < came.length; kind++) {
            came[kind] -= told.amount(kind);
        }
        told.pore = pore;
        told.excess = excess;
        told.energy = energy;
        told.carbon = carbon;
        for (int kind = 0; kind < came.length; kind++) {
            came[kind] += told.amount(kind);
        }
    }

    /** Tells the moss of a cell, and returns what it was. */
    public int moss(int cell, int moss) throws IndexOutOfBoundsException, IllegalArgumentException {
        needIndex(cell, CELLS);
        needRange(moss, 0, MOST_MOSS);
        int before = cells[cell].moss;
        cells[cell].moss = moss;
        return before;
    }

    /** Lets months pass, alike, and returns the month then. */
    public int pass(int months, int air, int snow) throws IllegalArgumentException, IllegalStateException {
        needRange(months, 1, 24);
        needRange(air, -50, 30);
        needRange(snow, 0, MOST_SNOW);
        needState(month + months <= LAST_MONTH);
        for (int i = 0; i < months; i++) {
            passOneMonth(air, snow);
        }
        return month;
    }

    /** Sets fire to a cell, and returns how much carbon is SMOKE by that. */
    public int fire(int cell) throws IndexOutOfBoundsException, IllegalStateException {
        needIndex(cell, CELLS);
        Cell burnt = cells[cell];
        needState(!burnt.isLake() && burnt.snow == 0);
        Layer top = burnt.layers[0];
        int smoke = top.carbon / 2;
        burnt.moss = 0;
        top.carbon -= smoke;
        gases[SMOKE] += smoke;
        return smoke;
    }

    /** Breaches the lake of a cell, and returns how many units go. */
    public int breach(int cell) throws IndexOutOfBoundsException, IllegalStateException {
        needIndex(cell, CELLS);
        needState(cells[cell].water > 0);
        int size = gatherOneLake(cell);
        int units = 0;
        for (int i = 0; i < size; i++) {
            Cell breached = cells[lakeCells[i]];
            units += breached.water;
            breached.water = 0;
        }
        drained += units;
        return units;
    }

    /** Builds a house, and returns its number. */
    public int house(int cell, int pile, boolean isCooled)
            throws IndexOutOfBoundsException, IllegalStateException {
        needIndex(cell, CELLS);
        needIndex(pile - 1, LAYERS - 1);
        Cell site = cells[cell];
        needState(site.house == NONE && !site.isLake() && houses.size() < MOST_HOUSES);
        site.house = houses.size();
        houses.add(new House(cell, pile, isCooled, month));
        return site.house;
    }

    /** Sinks a borehole, and returns its number. */
    public int borehole(int cell, int drift)
            throws IndexOutOfBoundsException, IllegalArgumentException, IllegalStateException {
        needIndex(cell, CELLS);
        needRange(drift, -MOST_DRIFT, MOST_DRIFT);
        needState(boreholes.size() < MOST_BOREHOLES);
        boreholes.add(new Borehole(cell, drift, month));
        return boreholes.size() - 1;
    }

    /** Files a claim, and returns its number. */
    public int claim(int house) throws IndexOutOfBoundsException, IllegalStateException {
        needIndex(house, houses.size());
        needState(claims.size() < MOST_CLAIMS);
        House claimed = houses.get(house);
        claims.add(new Claim(claimed, month, claimAmount(claimed, claimed.tilt, month)));
        return claims.size() - 1;
    }

    // ---- what is asked

    /** Returns the month. */
    public int month() {
        return month;
    }

    /** Tells of a cell. */
    public int cellOf(int cell, int what) throws IndexOutOfBoundsException, IllegalArgumentException {
        needIndex(cell, CELLS);
        needRange(what, 0, 7);
        Cell asked = cells[cell];
        switch (what) {
            case 0:
                return asked.height;
            case 1:
                return asked.water;
            case 2:
                return asked.snow;
            case 3:
                return asked.moss;
            case 4:
                return asked.wedges;
            case 5:
                return asked.house;
            case 6:
                return gatherOneLake(cell);
            default:
                return asked.thawedFromAbove();
        }
    }

    /** Tells of a layer. */
    public int layerOf(int cell, int layer, int what)
            throws IndexOutOfBoundsException, IllegalArgumentException {
        needIndex(cell, CELLS);
        needIndex(layer, LAYERS);
        needRange(what, 0, 5);
        Layer asked = cells[cell].layers[layer];
        switch (what) {
            case 0:
                return asked.temperature();
            case 1:
                return asked.energy;
            case 2:
                return asked.pore;
            case 3:
                return asked.excess;
            case 4:
                return asked.carbon;
            default:
                return asked.melted();
        }
    }

    /** Returns a neighbour of a cell, by rising numbers; NONE behind the last one. */
    public int neighbour(int cell, int at) throws IndexOutOfBoundsException {
        needIndex(cell, CELLS);
        if (at < 0) {
            throw new IndexOutOfBoundsException();
        }
        int passed = 0;
        for (int i = 0; i < STEPS.length; i++) {
            int next = stepFrom(cell, STEPS[i]);
            if (next != NONE) {
                if (passed == at) {
                    return next;
                }
                passed++;
            }
        }
        return NONE;
    }

    /** Returns how many lakes there are that have at least one LAKE. */
    public int lakes() {
        forgetGathered();
        int count = 0;
        for (int cell = 0; cell < CELLS; cell++) {
            int size = gatherLake(cell);
            if (hasLakeCell(size)) {
                count++;
            }
        }
        return count;
    }

    /** Tells of a house. */
    public int houseOf(int house, int what) throws IndexOutOfBoundsException, IllegalArgumentException {
        needIndex(house, houses.size());
        needRange(what, 0, 4);
        House asked = houses.get(house);
        switch (what) {
            case 0:
                return asked.cell;
            case 1:
                return asked.pile;
            case 2:
                return asked.tilt;
            case 3:
                return asked.built;
            default:
                return claimAmount(asked, asked.tilt, month);
        }
    }

    /** Returns what a borehole read. */
    public int reading(int borehole, int month, int layer) throws IndexOutOfBoundsException {
        needIndex(borehole, boreholes.size());
        needIndex(layer, LAYERS);
        Borehole asked = boreholes.get(borehole);
        if (!asked.hasRead(month)) {
            throw new IndexOutOfBoundsException();
        }
        return asked.readingAt(month, layer);
    }

    /** Returns what a claim is. */
    public int claimOf(int claim) throws IndexOutOfBoundsException {
        needIndex(claim, claims.size());
        return claims.get(claim).amount;
    }

    /** Returns what a claim is, found from the tilt and the readings known when it was filed. */
    public int claimAnew(int claim) throws IndexOutOfBoundsException {
        needIndex(claim, claims.size());
        Claim asked = claims.get(claim);
        return claimAmount(asked.house, asked.tilt, asked.filed);
    }

    /** Returns a balance. */
    public long balance(int kind, int what) throws IllegalArgumentException {
        needRange(kind, 0, KINDS - 1);
        needRange(what, 0, 3);
        switch (what) {
            case 0:
                return amountInLand(kind);
            case 1:
                return came[kind];
            case 2:
                return amountLeft(kind);
            default:
                return came[kind] - amountInLand(kind) - amountLeft(kind);
        }
    }

    /** Returns what is in the air. */
    public long air(int gas) throws IllegalArgumentException {
        needRange(gas, SMOKE, MARSH);
        return gases[gas];
    }

    // ---- what is refused

    private static void needIndex(int index, int size) {
        if (index < 0 || index >= size) {
            throw new IndexOutOfBoundsException();
        }
    }

    private static void needRange(int value, int least, int most) {
        if (value < least || value > most) {
            throw new IllegalArgumentException();
        }
    }

    private static void needState(boolean isGiven) {
        if (!isGiven) {
            throw new IllegalStateException();
        }
    }

    // ---- a month

    private void passOneMonth(int air, int snow) {
        letSnow(air, snow);
        leadHeat(air);
        heatByHouses(air);
        letMeltedExcessOut();
        letPondsFlow();
        crackColdest(air);
        wakeCarbon(air);
        tiltHouses();
        readBoreholes();
        month++;
    }

    private void letSnow(int air, int snow) {
        for (int i = 0; i < cells.length; i++) {
            cells[i].snow = air < 0 ? Math.min(cells[i].snow + snow, MOST_SNOW) : 0;
        }
    }

    private void leadHeat(int air) {
        for (int i = 0; i < cells.length; i++) {
            int fromAir = cells[i].heatFromAir(air);
            cells[i].leadDown(fromAir, HEAT_FROM_BELOW);
            came[HEAT] += fromAir + HEAT_FROM_BELOW;
        }
    }

    private void heatByHouses(int air) {
        for (int i = 0; i < houses.size(); i++) {
            House house = houses.get(i);
            int brought = HOUSE_HEAT;
            if (house.isCooled && air < 0) {
                brought -= HOUSE_HEAT;
            }
            cells[house.cell].layers[0].energy += brought;
            came[HEAT] += brought;
        }
    }

    private void letMeltedExcessOut() {
        for (int i = 0; i < cells.length; i++) {
            cells[i].letMeltedExcessOut();
        }
    }

    /** Cells flow one behind the other: a later one sees what an earlier one let flow. */
    private void letPondsFlow() {
        for (int cell = 0; cell < CELLS; cell++) {
            int lowest = lowestNeighbour(cell);
            if (lowest != NONE) {
                int above = cells[cell].level() - cells[lowest].level();
                if (above >= 2) {
                    int flow = Math.min(above / 2, cells[cell].water);
                    cells[cell].water -= flow;
                    cells[lowest].water += flow;
                }
            }
        }
    }

    private int lowestNeighbour(int cell) {
        int lowest = NONE;
        for (int i = 0; i < STEPS.length; i++) {
            int next = stepFrom(cell, STEPS[i]);
            if (next != NONE && (lowest == NONE || cells[next].level() < cells[lowest].level())) {
                lowest = next;
            }
        }
        return lowest;
    }

    private void crackColdest(int air) {
        if (air > -20) {
            return;
        }
        Cell coldest = cells[0];
        for (int i = 1; i < cells.length; i++) {
            if (cells[i].crackingTemperature() < coldest.crackingTemperature()) {
                coldest = cells[i];
            }
        }
        if (coldest.crackingTemperature() <= -10) {
            coldest.crack();
        }
    }

    private void wakeCarbon(int air) {
        for (int i = 0; i < cells.length; i++) {
            Cell cell = cells[i];
            gases[cell.isLake() ? MARSH : SMOKE] += cell.wakeCarbon();
            if (air > 0 && !cell.isLake()) {
                gases[SMOKE] -= cell.moss;
                cell.layers[0].carbon += cell.moss;
            }
        }
    }

    private void tiltHouses() {
        for (int i = 0; i < houses.size(); i++) {
            House house = houses.get(i);
            if (cells[house.cell].layers[house.pile].isThawed()) {
                house.tilt++;
            }
        }
    }

    private void readBoreholes() {
        for (int i = 0; i < boreholes.size(); i++) {
            Borehole borehole = boreholes.get(i);
            borehole.readLayers(cells[borehole.cell].layers);
        }
    }

    // ---- cells side by side, and lakes

    /** Returns the cell that is a step away, NONE if the step leaves the land. */
    private static int stepFrom(int cell, int step) {
        int next = cell + step;
        if (next < 0 || next >= CELLS) {
            return NONE;
        }
        boolean isSideways = step == -1 || step == 1;
        // the last cell of a row is no neighbour of the first one of the next row
        return isSideways && next / SIDE != cell / SIDE ? NONE : next;
    }

    private void forgetGathered() {
        for (int i = 0; i < isGathered.length; i++) {
            isGathered[i] = false;
        }
    }

    private int gatherOneLake(int cell) {
        forgetGathered();
        return gatherLake(cell);
    }

    /** Gathers the lake of a cell into lakeCells, and returns how many of its cells are new. */
    private int gatherLake(int cell) {
        int size = gatherCell(cell, 0);
        for (int at = 0; at < size && at < lakeCells.length; at++) {
            for (int i = 0; i < STEPS.length; i++) {
                size = gatherCell(stepFrom(lakeCells[at], STEPS[i]), size);
            }
        }
        return size;
    }

    /** Puts a cell into lakeCells, if it has water and is new; returns how many are there then. */
    private int gatherCell(int cell, int size) {
        if (cell == NONE || cells[cell].water <= 0 || isGathered[cell] || size >= lakeCells.length) {
            return size;
        }
        isGathered[cell] = true;
        lakeCells[size] = cell;
        return size + 1;
    }

    private boolean hasLakeCell(int size) {
        for (int i = 0; i < size; i++) {
            if (cells[lakeCells[i]].isLake()) {
                return true;
            }
        }
        return false;
    }

    // ---- claims and balances

    private int claimAmount(House house, int tilt, int untilMonth) {
        return 100 * Math.min(tilt, monthsReadThawed(house, untilMonth));
    }

    private int monthsReadThawed(House house, int untilMonth) {
        int count = 0;
        for (int at = house.built; at < untilMonth; at++) {
            if (wasReadThawed(house, at)) {
                count++;
            }
        }
        return count;
    }

    private boolean wasReadThawed(House house, int at) {
        for (int i = 0; i < boreholes.size(); i++) {
            Borehole borehole = boreholes.get(i);
            if (borehole.cell == house.cell && borehole.hasRead(at)
                    && borehole.readingAt(at, house.pile) >= 0) {
                return true;
            }
        }
        return false;
    }

    private long amountInLand(int kind) {
        long sum = 0;
        for (int i = 0; i < cells.length; i++) {
            sum += cells[i].amount(kind);
        }
        return sum;
    }

    private long amountLeft(int kind) {
        if (kind == HEAT) {
            return UNIT_HEAT * drained;
        }
        return kind == WATER ? drained : gases[SMOKE] + gases[MARSH];
    }

    /** A layer of a cell. */
    private static final class Layer {
        int pore = 5;
        int excess;
        int energy = -1000;
        int carbon = 400;

        Layer(int excess) {
            this.excess = excess;
        }

        int units() {
            return pore + excess;
        }

        int temperature() {
            if (energy < 0) {
                return energy / DEGREE_HEAT;
            }
            int allMelted = UNIT_HEAT * units();
            return energy > allMelted ? (energy - allMelted) / DEGREE_HEAT : 0;
        }

        boolean isThawed() {
            return energy >= 0;
        }

        int melted() {
            return Math.min(Math.max(energy, 0) / UNIT_HEAT, units());
        }

        /** Lets out the melted units that the pores don't hold, and returns how many. */
        int letMeltedExcessOut() {
            int out = Math.max(melted() - pore, 0);
            excess -= out;
            energy -= UNIT_HEAT * out;
            return out;
        }

        /** Takes the carbon out that wakes, and returns how much. */
        int wakeCarbon() {
            int degrees = Math.max(temperature(), 0);
            int woken = Math.min(degrees * carbon / 1000, carbon);
            carbon -= woken;
            return woken;
        }

        int amount(int kind) {
            if (kind == HEAT) {
                return energy;
            }
            return kind == WATER ? units() : carbon;
        }
    }

    /** A cell of the land, with its pond. */
    private static final class Cell {
        final Layer[] layers = {new Layer(0), new Layer(2), new Layer(3), new Layer(2), new Layer(0)};
        int height = 100;
        int water;
        int snow;
        int moss = 2;
        int wedges;
        int house = NONE;

        boolean isLake() {
            return water >= LAKE_WATER;
        }

        int level() {
            return height + water;
        }

        int thawedFromAbove() {
            int count = 0;
            while (count < layers.length && layers[count].isThawed()) {
                count++;
            }
            return count;
        }

        int crackingTemperature() {
            return layers[CRACKING_LAYER].temperature();
        }

        int heatFromAir(int air) {
            int surface = layers[0].temperature();
            if (isLake()) {
                return 30 * (Math.max(air, 0) - surface);
            }
            int cover = 2 + snow + 2 * moss;
            return cover > 0 ? 60 / cover * (air - surface) : 0;
        }

        /** Leads heat through the layers; each flow is found before either of its layers changes. */
        void leadDown(int fromAir, int fromBelow) {
            int into = fromAir;
            for (int i = 0; i < layers.length; i++) {
                int out = -fromBelow;
                if (i + 1 < layers.length) {
                    out = 20 * (layers[i].temperature() - layers[i + 1].temperature());
                }
                layers[i].energy += into - out;
                into = out;
            }
        }

        void letMeltedExcessOut() {
            for (int i = 0; i < layers.length; i++) {
                int out = layers[i].letMeltedExcessOut();
                height -= out;
                water += out;
            }
        }

        /** Cracks; a unit of the pond's water freezes into the wedge, where there is room. */
        void crack() {
            wedges++;
            Layer cracked = layers[CRACKING_LAYER];
            if (water > 0 && cracked.excess < MOST_UNITS) {
                water--;
                height++;
                cracked.excess++;
                cracked.energy += UNIT_HEAT;
            }
        }

        int wakeCarbon() {
            int woken = 0;
            for (int i = 0; i < layers.length; i++) {
                woken += layers[i].wakeCarbon();
            }
            return woken;
        }

        long amount(int kind) {
            long sum = 0;
            if (kind == HEAT) {
                sum = UNIT_HEAT * water;
            } else if (kind == WATER) {
                sum = water;
            }
            for (int i = 0; i < layers.length; i++) {
                sum += layers[i].amount(kind);
            }
            return sum;
        }
    }

    /** A house on a pile. */
    private static final class House {
        final int cell;
        final int pile;
        final boolean isCooled;
        final int built;
        int tilt;

        House(int cell, int pile, boolean isCooled, int built) {
            this.cell = cell;
            this.pile = pile;
            this.isCooled = isCooled;
            this.built = built;
        }
    }

    /** A borehole, with all that it read. */
    private static final class Borehole {
        final int cell;
        final int drift;
        final int sunk;
        final int[] readings;
        int monthsRead;

        Borehole(int cell, int drift, int sunk) {
            this.cell = cell;
            this.drift = drift;
            this.sunk = sunk;
            readings = new int[Math.max(LAST_MONTH - sunk, 0) * LAYERS];
        }

        boolean hasRead(int month) {
            return month >= sunk && month < sunk + monthsRead;
        }

        /** Returns what was read of a layer in a month that has been read. */
        int readingAt(int month, int layer) {
            int at = (month - sunk) * LAYERS + layer;
            return at >= 0 && at < readings.length ? readings[at] : 0;
        }

        void readLayers(Layer[] layers) {
            int from = monthsRead * LAYERS;
            monthsRead++;
            int drifted = drift * monthsRead / 12;
            for (int i = 0; i < layers.length && from + i < readings.length; i++) {
                readings[from + i] = layers[i].temperature() + drifted;
            }
        }
    }

    /** A claim that was filed, with what it was found from. */
    private static final class Claim {
        final House house;
        final int tilt;
        final int filed;
        final int amount;

        Claim(House house, int filed, int amount) {
            this.house = house;
            this.tilt = house.tilt;
            this.filed = filed;
            this.amount = amount;
        }
    }
}
