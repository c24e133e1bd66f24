/** Step 3 of a year: water runs. */
public final class Step3Test {
    private static final String POTENTIAL = "The POTENTIAL of a CELL is 10 times its BED and 9 times its ICE, "
        + "together.";
    private static final String RUNS = "The CELLS are looked at from 0 to 11, each once: one that STANDS IN THE SEA, "
        + "and the CELL 11, give all their WATER to the sea; another one gives all of it to that NEIGHBOUR whose "
        + "POTENTIAL is the least, of two alike to the one with the greater number, if that is below its own; "
        + "otherwise it keeps it.";
    private static final String STAYS = "What comes to a CELL that was looked at already, one that STANDS IN THE SEA "
        + "too, stays there in this year, but for step 4.";

    public static void main(String[] args) {
        Check.run(Step3Test.class);
    }

    /** Three units of ice on a cell melt in one year, whatever its bed is up to 200. */
    private static void melt(IceLand x, int cell) {
        x.ice(cell, 3);
        x.climate(300, 0, 9);
        x.pass(1);
        x.climate(0, 0, 0);
    }

    private static IceLand beds(int of4, int of5, int of6) {
        IceLand x = new IceLand();
        x.land(4, of4);
        x.land(5, of5);
        x.land(6, of6);
        return x;
    }

    @Said(under = "A year", value = POTENTIAL)
    static void thePotentialIsOfBedAndIce(Check check) {
        IceLand x = new IceLand();
        x.ice(3, 7);
        x.land(4, 0);
        check.cells("100 with 7, 0 and 100", x, 9, 3, 1063, 0, 1000);
        check.same("water does not count", Scene.PUDDLE.make().cellIs(4, 9), 900);
    }

    @Said(under = "A year", value = POTENTIAL)
    static void thePotentialMayBeBelow0(Check check) {
        IceLand x = new IceLand();
        x.land(11, 0);
        x.ice(11, 9);
        x.pass(3);
        x.climate(300, 0, 9);
        x.pass(1);
        check.same("a bed of -2", x.cellIs(11, 9), -20);
    }

    @Said(under = "A year", value = RUNS)
    static void runsDownTheLineInOneYear(Check check) {
        IceLand x = new IceLand();
        for (int cell = 0; cell < 12; cell++) {
            x.land(cell, 200 - cell);
        }
        melt(x, 0);
        check.same("from the head to the sea", x.total(2), 3);
        check.same("none left", x.total(1), 0);
    }

    @Said(under = "A year", value = RUNS)
    static void staysInAHollow(Check check) {
        IceLand x = new IceLand();
        x.land(6, 50);
        melt(x, 6);
        check.cells("a hollow", x, 2, 5, 0, 3, 0);
    }

    @Said(under = "A year", value = RUNS)
    static void ofTwoAlikeTheGreaterNumberTakesIt(Check check) {
        IceLand x = beds(60, 70, 60);
        melt(x, 5);
        check.cells("two alike", x, 2, 4, 0, 0, 3, 0);
    }

    @Said(under = "A year", value = RUNS)
    static void theLesserOfTwoTakesIt(Check check) {
        IceLand x = beds(60, 90, 61);
        melt(x, 5);
        check.cells("the lesser is ahead", x, 2, 4, 3, 0, 0);
        IceLand y = beds(61, 90, 60);
        melt(y, 5);
        check.cells("the lesser is behind", y, 2, 4, 0, 0, 3);
    }

    @Said(under = "A year", value = RUNS)
    static void isKeptIfAllAreAlike(Check check) {
        IceLand x = new IceLand();
        melt(x, 5);
        check.cells("even land", x, 2, 4, 0, 3, 0);
    }

    @Said(under = "A year", value = RUNS)
    static void isKeptIfTheLeastIsAlike(Check check) {
        IceLand x = beds(90, 90, 95);
        melt(x, 5);
        check.cells("as low ahead, higher behind", x, 2, 4, 0, 3, 0);
        IceLand y = beds(95, 90, 90);
        melt(y, 5);
        check.cells("higher ahead, as low behind", y, 2, 4, 0, 3, 0);
    }

    @Said(under = "A year", value = RUNS)
    static void goesByAPotentialLessBy1(Check check) {
        check.same("3 units of ice upon 98 hold water of 100", leftAt100(98), 3);
        check.same("3 units of ice upon 97 do not", leftAt100(97), 0);
        // 9 times 10 upon 91 are 1000, and upon 90 they are 990.
        IceLand x = new IceLand();
        melt(x, 4);
        x.land(5, 91);
        x.ice(5, 10);
        check.same("alike", x.cellIs(5, 9), 1000);
        check.same("water stays", x.would(1, 4, 2), 3);
        IceLand y = new IceLand();
        melt(y, 4);
        y.land(5, 99);
        y.ice(5, 1);
        check.same("less by 1", y.cellIs(5, 9), 999);
        check.same("water goes", y.would(1, 4, 2), 0);
    }

    private static int leftAt100(int bedBehind) {
        IceLand x = new IceLand();
        melt(x, 4);
        x.land(5, bedBehind);
        x.ice(5, 3);
        x.pass(1);
        return x.cellIs(4, 2);
    }

    @Said(under = "A year", value = RUNS)
    static void isPressedOutByIce(Check check) {
        IceLand x = new IceLand();
        x.ice(5, 3);
        // A warmth of 4 over half of 103 melts 2 of 3: the unit left makes it 9 more than its neighbours.
        x.climate(55, 0, 5);
        x.pass(1);
        check.cells("pressed out", x, 2, 4, 0, 0, 2, 0);
    }

    @Said(under = "A year", value = RUNS)
    static void theHeadHasOneNeighbour(Check check) {
        IceLand x = new IceLand();
        x.land(1, 99);
        melt(x, 0);
        check.cells("lower land beside the head", x, 2, 0, 0, 3, 0);
        IceLand y = new IceLand();
        melt(y, 0);
        check.cells("even land beside the head", y, 2, 0, 3, 0);
        IceLand z = new IceLand();
        z.land(1, 101);
        melt(z, 0);
        check.cells("higher land beside the head", z, 2, 0, 3, 0);
    }

    @Said(under = "A year", value = RUNS)
    static void oneInTheSeaGivesItToTheSea(Check check) {
        IceLand x = new IceLand();
        x.sea(50);
        x.land(5, 49);
        melt(x, 5);
        check.same("a bed below the level", x.total(2), 3);
        check.same("none is left", x.total(1), 0);
        IceLand y = new IceLand();
        y.sea(50);
        y.land(0, 49);
        melt(y, 0);
        check.same("the head in the sea", y.total(2), 3);
    }

    @Said(under = "A year", value = RUNS)
    static void oneAtTheLevelKeepsIt(Check check) {
        IceLand x = new IceLand();
        x.sea(49);
        x.land(5, 49);
        melt(x, 5);
        check.same("a bed at the level", x.cellIs(5, 2), 3);
        check.same("none in the sea", x.total(2), 0);
    }

    @Said(under = "A year", value = RUNS)
    static void theEndGivesItToTheSeaOnDryLandToo(Check check) {
        IceLand x = new IceLand();
        x.land(11, 40);
        melt(x, 11);
        check.same("a hollow at the end", x.total(2), 3);
        IceLand y = new IceLand();
        y.land(10, 40);
        melt(y, 11);
        check.same("the end beside a hollow", y.total(2), 3);
        check.same("none in the hollow", y.cellIs(10, 2), 0);
    }

    @Said(under = "A year", value = RUNS)
    static void whatComesAheadOfItsTurnGoesOn(Check check) {
        IceLand x = new IceLand();
        x.land(11, 40);
        melt(x, 10);
        check.same("through the end", x.total(2), 3);
        IceLand y = new IceLand();
        y.sea(50);
        y.land(6, 49);
        melt(y, 5);
        check.same("through one in the sea", y.total(2), 3);
        IceLand z = beds(90, 80, 70);
        melt(z, 4);
        check.cells("through dry land", z, 2, 4, 0, 0, 3);
    }

    @Said(under = "A year", value = STAYS)
    static void runsUpTheLineByACellAYear(Check check) {
        IceLand x = new IceLand();
        for (int cell = 0; cell < 12; cell++) {
            x.land(cell, 100 + cell);
        }
        melt(x, 3);
        check.cells("year 1", x, 2, 0, 0, 0, 3, 0);
        x.pass(1);
        check.cells("year 2", x, 2, 0, 0, 3, 0, 0);
        x.pass(1);
        check.cells("year 3", x, 2, 0, 3, 0, 0, 0);
        x.pass(1);
        check.cells("year 4", x, 2, 0, 3, 0, 0, 0);
        check.same("none to the sea", x.total(2), 0);
    }

    @Said(under = "A year", value = STAYS)
    static void staysInOneInTheSeaForThatYear(Check check) {
        IceLand x = new IceLand();
        x.sea(50);
        x.land(4, 49);
        melt(x, 5);
        check.cells("what came behind its turn", x, 2, 4, 3, 0);
        check.same("none to the sea yet", x.total(2), 0);
        x.pass(1);
        check.cells("in the next year", x, 2, 4, 0, 0);
        check.same("to the sea then", x.total(2), 3);
    }

    /** Cell 5 stands in the sea and had its turn, but what came from 6 breaks out at once. */
    @Said(under = "A year", value = STAYS)
    static void breaksOutOfOneInTheSeaInThatYear(Check check) {
        IceLand x = new IceLand();
        x.sea(71);
        Lakes.addBetween(x, 5, 5, 13, 12);
        Lakes.meltOf(x, 12);
        x.pass(1);
        check.same("of 4 and 5 to the sea, of 6 as a flood", x.total(2), 36);
        check.same("floods", x.floods(), 1);
        check.same("cell", x.flood(0, 1), 5);
        check.same("units", x.flood(0, 2), 12);
    }
}
