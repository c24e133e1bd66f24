/**
 * A land under ice, as one line of cells from its head to the sea. What each call does and answers is told in the
 * document's promises 1 to 19, the steps of a year under its heading "A year".
 */
public final class IceLand {
    /** There is none. */
    public static final int NONE = -1;

    private static final int CELLS = 12;
    private static final int LAST_CELL = 11;
    private static final int LAST_YEAR = 60;
    private static final int YEARS = 61;
    private static final int MOST_YEARS_AT_ONCE = 20;
    private static final int MOST_FORECASTS = 10;
    private static final int MOST_HEIGHT = 500;
    private static final int MOST_WARMTH = 300;
    private static final int MOST_SNOW = 20;
    private static final int MOST_FACTOR = 9;
    private static final int MOST_ICE_AT_ONCE = 999;
    private static final int MOST_ICE = 9999;
    private static final int LAST_CELL_WHAT = 9;
    private static final int LAST_FLOOD_WHAT = 2;
    private static final int LAST_TOTAL_WHAT = 5;

    private final Land present;
    private final Land trial;
    private final Annals annals;
    private final Forecasts forecasts;

    /** Promise 1: the year 0, no ice and water, beds of 100, a sea of level 0, nothing told. */
    public IceLand() {
        present = new Land();
        // What would be is tried out in this second land, made once, since nothing is ever freed in a run's room.
        trial = new Land();
        annals = new Annals();
        forecasts = new Forecasts();
    }

    // ---- what is told

    /** Promise 2: tells the bed of a cell, and its base; returns the bed before. */
    public int land(int cell, int bed)
            throws IndexOutOfBoundsException, IllegalArgumentException, IllegalStateException {
        needCell(cell);
        needWithin(bed, 0, MOST_HEIGHT);
        if (present.core.ice[cell] > 0 || present.water[cell] > 0) {
            throw new IllegalStateException("the cell has ice or water");
        }
        int before = present.bed[cell];
        present.bed[cell] = bed;
        present.base[cell] = bed;
        return before;
    }

    /** Promise 3: tells the level of the sea; returns the level before. */
    public int sea(int level) throws IllegalArgumentException {
        needWithin(level, 0, MOST_HEIGHT);
        int before = present.level;
        present.level = level;
        return before;
    }

    /** Promise 4: tells the climate, from the next year on. */
    public void climate(int warmth, int snow, int factor) throws IllegalArgumentException {
        needWithin(warmth, -MOST_WARMTH, MOST_WARMTH);
        needWithin(snow, 0, MOST_SNOW);
        needWithin(factor, 0, MOST_FACTOR);
        present.warmth = warmth;
        present.snow = snow;
        present.factor = factor;
    }

    /** Promise 5: tells ice that a cell has more, in its layer of the year of now; returns its ice then. */
    public int ice(int cell, int units)
            throws IndexOutOfBoundsException, IllegalArgumentException, IllegalStateException {
        needCell(cell);
        needWithin(units, 1, MOST_ICE_AT_ONCE);
        if (present.core.ice[cell] + units > MOST_ICE) {
            throw new IllegalStateException("the cell would have too much ice");
        }
        present.core.lay(cell, present.year, units);
        present.sums.told += units;
        return present.core.ice[cell];
    }

    /** Promise 6: tells that the year of now has ash; returns whether it had. */
    public boolean ash() {
        boolean before = annals.ashFell[present.year];
        annals.ashFell[present.year] = true;
        return before;
    }

    /** Promise 7: lets years pass; returns the year then. */
    public int pass(int years) throws IllegalArgumentException, IllegalStateException {
        needWithin(years, 1, MOST_YEARS_AT_ONCE);
        needNotTooLate(years);
        for (int i = 0; i < years; i++) {
            present.goThroughYear();
            annals.note(present);
        }
        return present.year;
    }

    // ---- cells and cores

    /** Promise 8: tells of a cell. */
    public int cellIs(int cell, int what) throws IndexOutOfBoundsException, IllegalArgumentException {
        needCell(cell);
        needWithin(what, 0, LAST_CELL_WHAT);
        return present.tellOf(cell, what);
    }

    /** Promise 9: returns the units of a layer. */
    public int layer(int cell, int year) throws IndexOutOfBoundsException, IllegalArgumentException {
        needCell(cell);
        needWithin(year, 0, LAST_YEAR);
        return present.core.unitsOf(cell, year);
    }

    /** Promise 10: returns the year of the unit of ice at a depth, 0 the uppermost; NONE below the ice. */
    public int yearAt(int cell, int depth) throws IndexOutOfBoundsException, IllegalArgumentException {
        needCell(cell);
        if (depth < 0) {
            throw new IllegalArgumentException("the depth is below 0");
        }
        return present.core.yearBelow(cell, depth);
    }

    /** Promise 11: returns how many years with ash the cores of two cells both have. */
    public int common(int cell, int other) throws IndexOutOfBoundsException {
        needCell(cell);
        needCell(other);
        int count = 0;
        for (int year = 0; year < YEARS; year++) {
            if (annals.ashFell[year] && present.core.unitsOf(cell, year) > 0
                    && present.core.unitsOf(other, year) > 0) {
                count++;
            }
        }
        return count;
    }

    // ---- floods, fronts, sums

    /** Promise 12: returns how many floods there were. */
    public int floods() {
        return annals.floodCount;
    }

    /** Promise 13: tells of a flood: 0 its year, 1 its cell, 2 its units. */
    public int flood(int flood, int what) throws IndexOutOfBoundsException, IllegalArgumentException {
        if (flood < 0 || flood >= annals.floodCount) {
            throw new IndexOutOfBoundsException("there was no such flood");
        }
        needWithin(what, 0, LAST_FLOOD_WHAT);
        switch (what) {
            case 0:
                return annals.floodYear[flood];
            case 1:
                return annals.floodCell[flood];
            default:
                return annals.floodUnits[flood];
        }
    }

    /** Promise 14: returns the front of a year; NONE without, and for the year 0. */
    public int front(int year) throws IllegalArgumentException {
        needWithin(year, 0, present.year);
        return annals.frontOf[year];
    }

    /** Promise 15: tells a sum of all. */
    public int total(int what) throws IllegalArgumentException {
        needWithin(what, 0, LAST_TOTAL_WHAT);
        switch (what) {
            case 0:
                return present.core.allIce();
            case 1:
                return present.allWater();
            case 2:
                return present.sums.toSea;
            case 3:
                return present.sums.bergs;
            case 4:
                return present.sums.fallen;
            default:
                return present.sums.told;
        }
    }

    /** Promise 16: returns the ice that there is, found by what came and what went. */
    public int iceAnew() {
        Sums sums = present.sums;
        return sums.fallen + sums.told - sums.melted - sums.bergs;
    }

    // ---- what would be

    /** Promise 17: returns what cellIs() would tell behind some years. */
    public int would(int years, int cell, int what)
            throws IndexOutOfBoundsException, IllegalArgumentException, IllegalStateException {
        needCell(cell);
        needWithin(years, 1, MOST_YEARS_AT_ONCE);
        needWithin(what, 0, LAST_CELL_WHAT);
        needNotTooLate(years);
        tryOut(years);
        return trial.tellOf(cell, what);
    }

    /** Promise 18: makes a forecast; returns the ice of all cells that there would be. */
    public int forecast(int years) throws IllegalArgumentException, IllegalStateException {
        needWithin(years, 1, MOST_YEARS_AT_ONCE);
        needNotTooLate(years);
        if (forecasts.count >= MOST_FORECASTS) {
            throw new IllegalStateException("there are 10 forecasts");
        }
        tryOut(years);
        int expected = trial.core.allIce();
        forecasts.keep(trial.year, expected);
        return expected;
    }

    /** Promise 19: returns the miss of a forecast; NONE if its year has not passed. */
    public int miss(int forecast) throws IndexOutOfBoundsException {
        if (forecast < 0 || forecast >= forecasts.count) {
            throw new IndexOutOfBoundsException("there is no such forecast");
        }
        int meant = forecasts.meantYear[forecast];
        if (meant > present.year) {
            return NONE;
        }
        return Math.abs(forecasts.expected[forecast] - annals.iceBehind[meant]);
    }

    private void tryOut(int years) {
        trial.becomeLike(present);
        for (int i = 0; i < years; i++) {
            trial.goThroughYear();
        }
    }

    private void needNotTooLate(int years) {
        if (present.year + years > LAST_YEAR) {
            throw new IllegalStateException("it would be above the year 60");
        }
    }

    private static void needCell(int cell) {
        if (cell < 0 || cell >= CELLS) {
            throw new IndexOutOfBoundsException("there is no such cell");
        }
    }

    private static void needWithin(int value, int least, int most) {
        if (value < least || value > most) {
            throw new IllegalArgumentException("an argument is out of range");
        }
    }

    /** The cells and their weather at one time, and the seven steps of a year. */
    private static final class Land {
        private static final int FIRST_BED = 100;
        private static final int SLIDING_WATER = 4;
        private static final int FLOOD_WATER = 10;
        private static final int CREVASSE_STRAIN = 5;
        private static final int HIDING_SNOW = 3;

        int year;
        int level;
        int warmth;
        int snow;
        int factor;
        final Core core = new Core();
        final Sums sums = new Sums();
        final int[] bed = new int[CELLS];
        final int[] base = new int[CELLS];
        final int[] water = new int[CELLS];
        final int[] moraine = new int[CELLS];
        /** The snow that fell on each cell in the latest year. */
        final int[] snowed = new int[CELLS];
        /** What was given to each cell in the latest year's flow, less what it gave. */
        final int[] gain = new int[CELLS];
        /** What goes from each cell to the next one in this year's flow, below 0 for the other way. */
        final int[] passing = new int[LAST_CELL];
        /** The water that broke out of each cell in the latest year. */
        final int[] burst = new int[CELLS];
        /** The greatest cell with ice behind the latest year. */
        int frontCell = NONE;

        Land() {
            for (int cell = 0; cell < CELLS; cell++) {
                bed[cell] = FIRST_BED;
                base[cell] = FIRST_BED;
            }
        }

        /** Copies what the years to come depend on; the rest is made anew in each year, or is not asked of a trial. */
        void becomeLike(Land other) {
            year = other.year;
            level = other.level;
            warmth = other.warmth;
            snow = other.snow;
            factor = other.factor;
            core.becomeLike(other.core);
            System.arraycopy(other.bed, 0, bed, 0, CELLS);
            System.arraycopy(other.base, 0, base, 0, CELLS);
            System.arraycopy(other.water, 0, water, 0, CELLS);
            System.arraycopy(other.moraine, 0, moraine, 0, CELLS);
        }

        void goThroughYear() {
            year++;
            for (int cell = 0; cell < CELLS; cell++) {
                snowOrMelt(cell);
            }
            flow();
            for (int cell = 0; cell < CELLS; cell++) {
                runOff(cell);
            }
            for (int cell = 0; cell < CELLS; cell++) {
                breakOut(cell);
            }
            calve();
            for (int cell = 0; cell < CELLS; cell++) {
                moveBed(cell);
            }
            markFront();
        }

        int tellOf(int cell, int what) {
            switch (what) {
                case 0:
                    return bed[cell];
                case 1:
                    return core.ice[cell];
                case 2:
                    return water[cell];
                case 3:
                    return surface(cell);
                case 4:
                    return moraine[cell];
                case 5:
                    return hasCrevasse(cell) ? 1 : 0;
                case 6:
                    return hasCrevasse(cell) && snowed[cell] >= HIDING_SNOW ? 1 : 0;
                case 7:
                    return standsInSea(cell) ? 1 : 0;
                case 8:
                    return base[cell];
                default:
                    return potential(cell);
            }
        }

        int allWater() {
            int all = 0;
            for (int cell = 0; cell < CELLS; cell++) {
                all += water[cell];
            }
            return all;
        }

        private int surface(int cell) {
            return bed[cell] + core.ice[cell];
        }

        private int potential(int cell) {
            return 10 * bed[cell] + 9 * core.ice[cell];
        }

        private boolean standsInSea(int cell) {
            return bed[cell] < level;
        }

        private boolean hasCrevasse(int cell) {
            return Math.abs(gain[cell]) >= CREVASSE_STRAIN;
        }

        private void snowOrMelt(int cell) {
            int here = warmth - Math.floorDiv(surface(cell), 2);
            snowed[cell] = 0;
            if (here < 0 && (core.ice[cell] > 0 || !standsInSea(cell))) {
                snowed[cell] = snow;
                core.lay(cell, year, snow);
                sums.fallen += snow;
            } else if (here > 0) {
                int melt = Math.min(Math.floorDiv(here * factor, 10), core.ice[cell]);
                core.takeLatest(cell, melt);
                water[cell] += melt;
                sums.melted += melt;
            }
        }

        private void flow() {
            for (int cell = 0; cell < LAST_CELL; cell++) {
                passing[cell] = givenToNext(cell);
            }
            for (int cell = 0; cell < CELLS; cell++) {
                gain[cell] = 0;
            }
            for (int cell = 0; cell < LAST_CELL; cell++) {
                int units = passing[cell];
                gain[cell] -= units;
                gain[cell + 1] += units;
                if (units > 0) {
                    core.carryEarliest(cell, cell + 1, units);
                } else if (units < 0) {
                    core.carryEarliest(cell + 1, cell, -units);
                }
            }
        }

        private int givenToNext(int cell) {
            int difference = surface(cell) - surface(cell + 1);
            if (difference > 0) {
                return givenBy(cell, difference);
            }
            return -givenBy(cell + 1, -difference);
        }

        private int givenBy(int giver, int difference) {
            // The product can outgrow an int, if flow has heaped up more ice than may be told.
            long units = Math.floorDiv((long) difference * core.ice[giver], 200L);
            if (water[giver] >= SLIDING_WATER) {
                units *= 2;
            }
            return (int) Math.min(units, Math.floorDiv(core.ice[giver], 4));
        }

        private void runOff(int cell) {
            if (cell == LAST_CELL || standsInSea(cell)) {
                sums.toSea += water[cell];
                water[cell] = 0;
                return;
            }
            int taker = cell + 1;
            if (cell > 0 && potential(cell - 1) < potential(taker)) {
                taker = cell - 1;
            }
            if (potential(taker) < potential(cell)) {
                water[taker] += water[cell];
                water[cell] = 0;
            }
        }

        private void breakOut(int cell) {
            burst[cell] = 0;
            int dam = leastIceBeside(cell);
            if (water[cell] >= FLOOD_WATER && dam > 0 && 10 * water[cell] > 9 * dam) {
                burst[cell] = water[cell];
                sums.toSea += water[cell];
                water[cell] = 0;
            }
        }

        /** The least ice of those neighbours that have some; 0 if none has any. */
        private int leastIceBeside(int cell) {
            int before = cell > 0 ? core.ice[cell - 1] : 0;
            int behind = cell < LAST_CELL ? core.ice[cell + 1] : 0;
            if (before == 0) {
                return behind;
            }
            return behind == 0 ? before : Math.min(before, behind);
        }

        private void calve() {
            for (int cell = LAST_CELL; cell >= 0; cell--) {
                int ice = core.ice[cell];
                boolean grounded = 9 * ice >= 10 * (level - bed[cell]);
                if (!standsInSea(cell) || ice > 0 && grounded) {
                    return;
                }
                sums.bergs += ice;
                core.takeLatest(cell, ice);
            }
        }

        private void moveBed(int cell) {
            int rest = base[cell] - Math.floorDiv(core.ice[cell], 3);
            if (bed[cell] < rest) {
                bed[cell]++;
            } else if (bed[cell] > rest) {
                bed[cell]--;
            }
        }

        private void markFront() {
            frontCell = NONE;
            for (int cell = 0; cell < CELLS; cell++) {
                if (core.ice[cell] > 0) {
                    frontCell = cell;
                }
            }
            if (frontCell >= 0) {
                moraine[frontCell]++;
            }
        }
    }

    /** The ice of all cells, in layers by years. */
    private static final class Core {
        /** The sum of each cell's layers. */
        final int[] ice = new int[CELLS];
        private final int[] units = new int[CELLS * YEARS];

        void becomeLike(Core other) {
            System.arraycopy(other.ice, 0, ice, 0, CELLS);
            System.arraycopy(other.units, 0, units, 0, CELLS * YEARS);
        }

        int unitsOf(int cell, int year) {
            return units[cell * YEARS + year];
        }

        int allIce() {
            int all = 0;
            for (int cell = 0; cell < CELLS; cell++) {
                all += ice[cell];
            }
            return all;
        }

        void lay(int cell, int year, int amount) {
            units[cell * YEARS + year] += amount;
            ice[cell] += amount;
        }

        void takeLatest(int cell, int amount) {
            int left = amount;
            for (int year = LAST_YEAR; year >= 0 && left > 0; year--) {
                int taken = Math.min(left, unitsOf(cell, year));
                lay(cell, year, -taken);
                left -= taken;
            }
        }

        void carryEarliest(int giver, int taker, int amount) {
            int left = amount;
            for (int year = 0; year < YEARS && left > 0; year++) {
                int moved = Math.min(left, unitsOf(giver, year));
                lay(giver, year, -moved);
                lay(taker, year, moved);
                left -= moved;
            }
        }

        int yearBelow(int cell, int depth) {
            int above = depth;
            for (int year = LAST_YEAR; year >= 0; year--) {
                int here = unitsOf(cell, year);
                if (above < here) {
                    return year;
                }
                above -= here;
            }
            return NONE;
        }
    }

    /** What came and what went since the land was made. */
    private static final class Sums {
        int fallen;
        int told;
        int melted;
        int toSea;
        int bergs;
    }

    /** What is noted of the years that passed. */
    private static final class Annals {
        private static final int MOST_FLOODS = CELLS * LAST_YEAR;

        final boolean[] ashFell = new boolean[YEARS];
        final int[] frontOf = new int[YEARS];
        final int[] iceBehind = new int[YEARS];
        final int[] floodYear = new int[MOST_FLOODS];
        final int[] floodCell = new int[MOST_FLOODS];
        final int[] floodUnits = new int[MOST_FLOODS];
        int floodCount;

        Annals() {
            frontOf[0] = NONE;
        }

        void note(Land land) {
            frontOf[land.year] = land.frontCell;
            iceBehind[land.year] = land.core.allIce();
            for (int cell = 0; cell < CELLS; cell++) {
                if (land.burst[cell] > 0 && floodCount < MOST_FLOODS) {
                    floodYear[floodCount] = land.year;
                    floodCell[floodCount] = cell;
                    floodUnits[floodCount] = land.burst[cell];
                    floodCount++;
                }
            }
        }
    }

    /** How much ice was forecast, and for which years. */
    private static final class Forecasts {
        final int[] meantYear = new int[MOST_FORECASTS];
        final int[] expected = new int[MOST_FORECASTS];
        int count;

        void keep(int year, int ice) {
            if (count < MOST_FORECASTS) {
                meantYear[count] = year;
                expected[count] = ice;
                count++;
            }
        }
    }
}
