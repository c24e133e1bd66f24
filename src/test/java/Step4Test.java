/** Step 4 of a year: floods. */
public final class Step4Test {
    private static final String BREAKS_OUT = "A CELL with 10 units of WATER or more, of whose NEIGHBOURS one at least "
        + "has ICE, breaks out, if 10 times its WATER is more than 9 times the least ICE of those NEIGHBOURS that have "
        + "some: all its WATER goes to the sea, and that is a FLOOD.";
    private static final String NUMBERED = "FLOODS are numbered from 0, in one year by CELLS.";

    public static void main(String[] args) {
        Check.run(Step4Test.class);
    }

    /** The units of water that break out of cell 5, three times as many as melt of each of three tongues. */
    private static int out(int before, int behind, int melt) {
        IceLand x = Lakes.between(before, behind, melt);
        x.pass(1);
        return x.floods() == 0 ? 0 : x.flood(0, 2);
    }

    @Said(under = "A year", value = BREAKS_OUT)
    static void tenUnitsBreakOut(Check check) {
        check.same("10 against 2", out(2, 0, 5), 10);
        check.same("10 against 1 and 1", out(0, 1, 5), 10);
    }

    @Said(under = "A year", value = BREAKS_OUT)
    static void nineUnitsDoNot(Check check) {
        check.same("9 against 2 and 2", out(2, 2, 3), 0);
        check.same("9 against 1 and 1", out(1, 1, 3), 0);
    }

    @Said(under = "A year", value = BREAKS_OUT)
    static void breaksOutAsTheTenthUnitComes(Check check) {
        // Two units of cell 5, a hollow of 20, melt in the first year, seven later, and one upon that.
        IceLand x = new IceLand();
        x.land(5, 20);
        x.ice(5, 2);
        x.climate(300, 0, 9);
        x.pass(1);
        x.ice(5, 7);
        x.pass(1);
        x.climate(-300, 0, 0);
        x.ice(6, 3);
        x.pass(1);
        check.same("9 units beside ice", x.cellIs(5, 2), 9);
        check.same("no flood", x.floods(), 0);
        x.ice(5, 1);
        // Cell 5 is warm, as half of 21 is 10, cell 6 is cold, as half of 102 or 103 is more.
        x.climate(20, 0, 1);
        x.pass(1);
        check.same("flood", x.floods(), 1);
        check.same("units", x.flood(0, 2), 10);
    }

    @Said(under = "A year", value = BREAKS_OUT)
    static void withoutIceBesideItNothingBreaksOut(Check check) {
        check.same("18 against none", out(0, 0, 18), 0);
        IceLand x = Lakes.between(0, 0, 18);
        x.pass(1);
        check.same("the water stays", x.cellIs(5, 2), 18);
        check.same("ice of its own does not count", x.cellIs(5, 1), 30);
    }

    @Said(under = "A year", value = BREAKS_OUT)
    static void tenTimesIsMoreThanNineTimes(Check check) {
        check.same("180 against 180", out(20, 20, 6), 0);
        check.same("180 against 171", out(19, 19, 6), 18);
        check.same("120 against 126", out(14, 0, 6), 0);
        check.same("120 against 117", out(13, 0, 6), 12);
        check.same("100 against 108", out(12, 0, 5), 0);
        check.same("100 against 99", out(11, 0, 5), 10);
    }

    @Said(under = "A year", value = BREAKS_OUT)
    static void theLeastIceOfTwoHoldsIt(Check check) {
        check.same("18 against 19 and 20", out(19, 20, 6), 18);
        check.same("18 against 20 and 19", out(20, 19, 6), 18);
        check.same("18 against 20 and 21", out(20, 21, 6), 0);
    }

    @Said(under = "A year", value = BREAKS_OUT)
    static void oneWithoutIceIsNotTheLeast(Check check) {
        check.same("12 against 14 alone ahead", out(14, 0, 6), 0);
        check.same("12 against 14 alone behind", out(0, 14, 6), 0);
        check.same("12 against 13 alone ahead", out(13, 0, 6), 12);
        check.same("12 against 13 alone behind", out(0, 13, 6), 12);
    }

    private static int cellOfFlood(int cell, int before, int behind) {
        IceLand x = new IceLand();
        Lakes.addBetween(x, cell, before, behind, 6);
        Lakes.meltOf(x, 6);
        x.pass(1);
        return x.floods() == 0 ? IceLand.NONE : x.flood(0, 1);
    }

    @Said(under = "A year", value = BREAKS_OUT)
    static void theHeadBreaksOut(Check check) {
        check.same("12 against 13", cellOfFlood(0, 0, 13), 0);
        check.same("12 against 14", cellOfFlood(0, 0, 14), IceLand.NONE);
    }

    @Said(under = "A year", value = BREAKS_OUT)
    static void theHeadAndTheEndHoldIt(Check check) {
        check.same("12 against 13 of the head", cellOfFlood(1, 13, 0), 1);
        check.same("12 against 14 of the head", cellOfFlood(1, 14, 0), IceLand.NONE);
        check.same("12 against 13 ahead of the end", cellOfFlood(10, 13, 0), 10);
        check.same("12 against 14 ahead of the end", cellOfFlood(10, 14, 0), IceLand.NONE);
    }

    @Said(under = "A year", value = BREAKS_OUT)
    static void theEndNeverBreaksOut(Check check) {
        // All water of the end went to the sea in step 3.
        IceLand x = new IceLand();
        Lakes.addBetween(x, 11, 5, 0, 12);
        Lakes.meltOf(x, 12);
        x.pass(1);
        check.same("water in the sea", x.total(2), 24);
        check.same("no flood", x.floods(), 0);
    }

    @Said(under = "A year", value = BREAKS_OUT)
    static void allItsWaterGoesToTheSeaAndNoIce(Check check) {
        IceLand x = Lakes.between(19, 20, 6);
        x.pass(1);
        check.cells("ice", x, 1, 3, 0, 19, 30, 20, 0);
        check.cells("water", x, 2, 3, 0, 0, 0, 0, 0);
        check.same("in the sea", x.total(2), 18);
        check.same("units of the flood", x.flood(0, 2), 18);
        check.same("the ice was no water but what melted", x.total(0), 69);
    }

    @Said(under = "A year", value = NUMBERED)
    static void theFirstIsNumber0(Check check) {
        IceLand x = Lakes.between(19, 20, 6);
        check.noSuch(Scene.NEW, "flood(0, 0) ahead of it", y -> y.flood(0, 0));
        x.pass(1);
        check.same("cell of the first", x.flood(0, 1), 5);
        check.same("there is one", x.floods(), 1);
    }

    @Said(under = "A year", value = NUMBERED)
    static void inOneYearTheyAreNumberedByCells(Check check) {
        IceLand x = new IceLand();
        Lakes.addBetween(x, 9, 12, 0, 6);
        Lakes.addBetween(x, 6, 12, 0, 6);
        Lakes.addBetween(x, 1, 12, 0, 6);
        Lakes.meltOf(x, 6);
        x.pass(1);
        check.same("floods", x.floods(), 3);
        check.same("cell of 0", x.flood(0, 1), 1);
        check.same("cell of 1", x.flood(1, 1), 6);
        check.same("cell of 2", x.flood(2, 1), 9);
    }

    @Said(under = "A year", value = NUMBERED)
    static void thoseOfALaterYearComeBehind(Check check) {
        IceLand x = Scene.LATE.make();
        int[] years = {1, 13, 16, 24, 29, 33};
        int[] cells = {7, 7, 7, 7, 8, 9};
        for (int flood = 0; flood < years.length; flood++) {
            check.same("year of " + flood, x.flood(flood, 0), years[flood]);
            check.same("cell of " + flood, x.flood(flood, 1), cells[flood]);
        }
    }
}
