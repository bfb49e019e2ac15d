/** Promise 4, in a month, 4: ponds flow. */
public final class P04Month4FlowTest {
    public static void main(String[] args) {
        byTwoOrMore();
        atMostItsWater();
        heightAndWater();
        lowestLevel();
        ofSeveralTheLowestCell();
        toOneNeighbour();
        fromEachToEach();
        notAcross();
        chainOfRisingCells();
        afterMelting();
        Check.end("P04Month4FlowTest");
    }

    private static void cell(Wakeground land, String what, int cell, int height, int water) {
        Check.due(what + ": height of " + cell, land.cellOf(cell, 0), height);
        Check.due(what + ": water of " + cell, land.cellOf(cell, 1), water);
    }

    /** "by 2 or more, half of that, rounded down, flows there" */
    private static void byTwoOrMore() {
        int[] flows = {0, 0, 1, 1, 2, 2, 3, 3, 4, 4};
        for (int by = 0; by < flows.length; by++) {
            Wakeground land = new Wakeground();
            Lands.sink(land, 12, by);
            Lands.melt(land, 7, 9);
            land.pass(1, -10, 0);
            cell(land, "by " + by, 7, 91, 9 - flows[by]);
            cell(land, "by " + by, 12, 100 - by, flows[by]);
            Check.balanced("by " + by, land);
        }
    }

    /** "at most its water" */
    private static void atMostItsWater() {
        int[] flows = {0, 1, 2, 3, 4, 4, 4};
        for (int units = 0; units < flows.length; units++) {
            Wakeground land = new Wakeground();
            Lands.sink(land, 12, 9);
            Lands.melt(land, 13, units);
            land.pass(1, -10, 0);
            cell(land, units + " units", 13, 100 - units, units - flows[units]);
            cell(land, units + " units", 12, 91, flows[units]);
        }
    }

    /** "the level of a cell is its height and its water, together" */
    private static void heightAndWater() {
        // the water of the lower one counts: it has 9 units itself
        int[] flows = {0, 0, 1, 1, 2};
        for (int by = 0; by < flows.length; by++) {
            Wakeground land = new Wakeground();
            Lands.sink(land, 12, by);
            Lands.melt(land, 12, 9);
            Lands.melt(land, 7, 9);
            land.pass(1, -10, 0);
            cell(land, "full, by " + by, 7, 91, 9 - flows[by]);
            cell(land, "full, by " + by, 12, 91 - by, 9 + flows[by]);
        }
        // the height of the higher one counts: 5 units in a hole flow nowhere
        Wakeground hole = new Wakeground();
        Lands.sink(hole, 12, 9);
        Lands.melt(hole, 12, 5);
        hole.pass(1, -10, 0);
        cell(hole, "hole", 12, 86, 5);
    }

    /** "its neighbour with the lowest level" */
    private static void lowestLevel() {
        int[] around = {7, 11, 13, 17};
        for (int lowest : around) {
            Wakeground land = new Wakeground();
            for (int beside : around) {
                Lands.sink(land, beside, beside == lowest ? 5 : 4);
            }
            Lands.melt(land, 12, 9);
            land.pass(1, -10, 0);
            cell(land, "lowest " + lowest, 12, 91, 7);
            cell(land, "lowest " + lowest, lowest, 95, 2);
        }
        // its level is lowest, though its height is not
        Wakeground full = new Wakeground();
        Lands.sink(full, 7, 3);
        Lands.sink(full, 17, 2);
        Lands.melt(full, 17, 9);
        Lands.melt(full, 12, 9);
        full.pass(1, -10, 0);
        cell(full, "level, not height", 7, 97, 1);
        cell(full, "level, not height", 17, 89, 9);
        cell(full, "level, not height", 12, 91, 8);
    }

    /** "of several the lowest cell" */
    private static void ofSeveralTheLowestCell() {
        int[] around = {7, 11, 13, 17};
        for (int i = 0; i < 4; i++) {
            for (int j = i + 1; j < 4; j++) {
                Wakeground land = new Wakeground();
                Lands.sink(land, around[i], 4);
                Lands.sink(land, around[j], 4);
                Lands.melt(land, 12, 9);
                land.pass(1, -10, 0);
                cell(land, "the lowest cell", around[i], 96, 2);
                cell(land, "not the other", around[j], 96, 0);
            }
        }
        // alike by their levels, of which the second one's is height and water
        Wakeground land = new Wakeground();
        Lands.sink(land, 7, 2);
        Lands.sink(land, 17, 2);
        Lands.melt(land, 17, 5);
        Lands.melt(land, 12, 9);
        land.pass(1, -10, 0);
        cell(land, "alike by level", 7, 98, 1);
        cell(land, "alike by level", 17, 93, 5);
        cell(land, "alike by level", 12, 91, 8);
    }

    private static void toOneNeighbour() {
        Wakeground land = new Wakeground();
        for (int beside : new int[] {7, 11, 13, 17}) {
            Lands.sink(land, beside, 4);
        }
        Lands.melt(land, 12, 9);
        land.pass(1, -10, 0);
        cell(land, "from", 12, 91, 7);
        cell(land, "to one", 7, 96, 2);
        for (int beside : new int[] {11, 13, 17}) {
            cell(land, "not to", beside, 96, 0);
        }
        land.pass(1, -10, 0);
        cell(land, "from, then", 12, 91, 6);
        cell(land, "to the next", 11, 96, 1);
    }

    /** "neighbours are those side by side in a row or a column" */
    private static void fromEachToEach() {
        for (int cell = 0; cell < 25; cell++) {
            for (int beside = 0; beside < 25; beside++) {
                if (PlainLand.isBeside(cell, beside)) {
                    Wakeground land = new Wakeground();
                    Lands.sink(land, beside, 4);
                    Lands.melt(land, cell, 9);
                    land.pass(1, -10, 0);
                    cell(land, "from", cell, 91, 7);
                    cell(land, "into", beside, 96, 2);
                }
            }
        }
    }

    /** Cells that are not side by side: the end and the beginning of rows, corners, and farther ones. */
    private static void notAcross() {
        int[][] apart = {{4, 5}, {9, 10}, {14, 15}, {19, 20}, {12, 6}, {12, 8}, {12, 16}, {12, 18},
            {12, 2}, {12, 10}, {12, 14}, {12, 22}, {0, 24}, {4, 20}, {0, 4}, {0, 20}};
        for (int[] pair : apart) {
            for (int i = 0; i < 2; i++) {
                Wakeground land = new Wakeground();
                Lands.sink(land, pair[i], 9);
                Lands.melt(land, pair[1 - i], 9);
                land.pass(1, -10, 0);
                cell(land, "not from", pair[1 - i], 91, 9);
                cell(land, "not into", pair[i], 91, 0);
            }
        }
    }

    /** "By rising cells": one lets flow what came from one before it in the same month, not from one behind it. */
    private static void chainOfRisingCells() {
        Wakeground land = new Wakeground();
        Lands.sink(land, 7, 9);
        Lands.sink(land, 12, 9);
        Lands.sink(land, 12, 9);
        Lands.melt(land, 2, 9);
        land.pass(1, -10, 0);
        cell(land, "first", 2, 91, 5);
        cell(land, "between", 7, 91, 0);
        cell(land, "last", 12, 82, 4);
        Check.balanced("chain", land);
        Wakeground back = new Wakeground();
        Lands.sink(back, 17, 9);
        Lands.sink(back, 12, 9);
        Lands.sink(back, 12, 9);
        Lands.melt(back, 22, 9);
        back.pass(1, -10, 0);
        cell(back, "first, back", 22, 91, 5);
        cell(back, "between, back", 17, 91, 4);
        cell(back, "last, back", 12, 82, 0);
        back.pass(1, -10, 0);
        cell(back, "last, back, then", 12, 82, 4);
    }

    /** What a cell let out in the month flows in it; that of a cell behind it too. */
    private static void afterMelting() {
        Wakeground land = new Wakeground();
        Lands.sink(land, 12, 4);
        Lands.melt(land, 7, 2);
        // sinks by 9 and has 9 of water: its level stays
        Lands.melt(land, 17, 9);
        land.pass(1, -10, 0);
        cell(land, "from 7", 7, 98, 0);
        cell(land, "from 17", 17, 91, 8);
        cell(land, "into 12", 12, 96, 3);
    }
}
