/** Step 2 of a year: flow. */
public final class Step2Test {
    private static final String GIVES = "Of two NEIGHBOURS the one with the greater SURFACE gives: the difference of "
        + "both SURFACES times its ICE, divided by 200, twice that number as it is rounded, if the giver has 4 units "
        + "of WATER or more, but at most a fourth of its ICE; nothing, if both are alike.";
    private static final String GOES = "All that is given is found first, by how things are ahead of this step; "
        + "then it goes, for the NEIGHBOURS 0 and 1 first, then for 1 and 2, and so on: from the LAYERS that the "
        + "giver has by then, the earliest years first, into the LAYERS of the same years of the other one.";

    public static void main(String[] args) {
        Check.run(Step2Test.class);
    }

    @Said(under = "A year", value = GIVES)
    static void goesToEitherSide(Check check) {
        IceLand x = new IceLand();
        x.ice(5, 24);
        x.pass(1);
        // 24 times 24 by 200 is 2 and some more.
        check.cells("a heap", x, 1, 3, 0, 2, 20, 2, 0);
    }

    @Said(under = "A year", value = GIVES)
    static void goesFromTheHeadAndFromTheEnd(Check check) {
        IceLand x = new IceLand();
        x.ice(0, 28);
        x.ice(11, 29);
        x.pass(1);
        check.cells("the head", x, 1, 0, 25, 3, 0);
        check.cells("the end", x, 1, 9, 0, 4, 25);
    }

    @Said(under = "A year", value = GIVES)
    static void bareLandGivesNothing(Check check) {
        IceLand x = new IceLand();
        x.land(5, 150);
        x.ice(4, 20);
        x.pass(1);
        check.cells("beside bare land", x, 1, 3, 2, 18, 0);
    }

    @Said(under = "A year", value = GIVES)
    static void goesDownASlope(Check check) {
        IceLand x = new IceLand();
        x.land(5, 110);
        x.ice(5, 19);
        x.ice(6, 10);
        x.pass(1);
        // To 4: 29 times 19 by 200; to 6: 19 times 19 by 200; 6 gives none to 7, as 10 times 10 by 200 is none.
        check.cells("ice", x, 1, 4, 2, 16, 11, 0);
    }

    @Said(under = "A year", value = GIVES)
    static void goesBySurfacesBelow0Too(Check check) {
        // Dry land at the end, so that nothing calves.
        IceLand x = new IceLand();
        x.land(11, 200);
        for (int cell = 0; cell < 11; cell++) {
            x.land(cell, 0);
            x.ice(cell, 200);
        }
        x.pass(20);
        x.pass(20);
        x.climate(300, 0, 9);
        x.pass(2);
        check.cells("all is molten", x, 1, 4, 0, 0, 0);
        x.climate(0, 0, 0);
        x.ice(5, 19);
        check.cells("surfaces", x, 3, 4, -38, -19, -38);
        x.pass(1);
        check.cells("19 times 19 by 200 to either side", x, 1, 4, 1, 17, 1);
    }

    /** A cell whose surface is greater by 1 than those beside it: 1 times its ice, by 200. */
    private static IceLand greaterByOne(int ice) {
        IceLand x = new IceLand();
        for (int cell = 0; cell < 12; cell++) {
            x.land(cell, 300);
        }
        x.land(5, 301 - ice);
        x.ice(5, ice);
        for (int cell = 4; cell <= 6; cell += 2) {
            x.land(cell, 297);
            x.ice(cell, 3);
        }
        x.pass(1);
        return x;
    }

    @Said(under = "A year", value = GIVES)
    static void isRoundedDown(Check check) {
        check.cells("199 by 200", greaterByOne(199), 1, 4, 3, 199, 3);
        check.cells("200 by 200", greaterByOne(200), 1, 4, 4, 198, 4);
    }

    /** What is left of 24 units on the head, beside bare land lower by 24, upon as much water. */
    private static int leftUponWater(int water, int warmth) {
        IceLand x = new IceLand();
        x.ice(0, 24 + water);
        x.climate(warmth, 0, water);
        x.pass(1);
        return x.cellIs(0, 1);
    }

    @Said(under = "A year", value = GIVES)
    static void isTwiceUpon4UnitsOfWaterOrMore(Check check) {
        // 10 warmer than half of the surface: as many units melt as the factor is.
        check.same("upon 3 units, 2 go", leftUponWater(3, 73), 22);
        check.same("upon 4 units, 4 go", leftUponWater(4, 74), 20);
        check.same("upon 5 units, 4 go", leftUponWater(5, 74), 20);
    }

    @Said(under = "A year", value = GIVES)
    static void isDoubledAsItIsRounded(Check check) {
        // 24 times 24 by 200 is 2.88: twice 2, and not 5.
        check.same("24 units upon water", leftUponWater(4, 74), 24 - 4);
    }

    @Said(under = "A year", value = GIVES)
    static void waterOfTheTakerDoesNotCount(Check check) {
        IceLand x = new IceLand();
        x.land(0, 80);
        x.ice(0, 23);
        x.climate(61, 0, 4);
        x.pass(1);
        check.same("water of the head", x.cellIs(0, 2), 4);
        x.climate(0, 0, 0);
        x.ice(1, 27);
        x.pass(1);
        // 1 gives 29 times 27 by 200 to 0, and 27 times 27 by 200 to 2, once each.
        check.same("water is still there", x.cellIs(0, 2), 4);
        check.cells("ice", x, 1, 0, 19 + 3, 27 - 3 - 3, 3);
    }

    @Said(under = "A year", value = GIVES)
    static void isAtMostAFourthRoundedDown(Check check) {
        IceLand x = new IceLand();
        x.land(0, 500);
        x.ice(0, 23);
        x.pass(1);
        check.cells("a fourth of 23", x, 1, 0, 18, 5, 0);
        IceLand y = new IceLand();
        y.land(0, 500);
        y.ice(0, 24);
        y.pass(1);
        check.cells("a fourth of 24", y, 1, 0, 18, 6, 0);
    }

    @Said(under = "A year", value = GIVES)
    static void ofThreeUnitsNoneGoes(Check check) {
        IceLand x = new IceLand();
        x.land(0, 500);
        x.ice(0, 3);
        x.pass(1);
        check.cells("3 units", x, 1, 0, 3, 0);
        IceLand y = new IceLand();
        y.land(0, 500);
        y.ice(0, 4);
        y.pass(1);
        check.cells("4 units", y, 1, 0, 3, 1);
    }

    @Said(under = "A year", value = GIVES)
    static void isAtMostAFourthUponWaterToo(Check check) {
        IceLand x = new IceLand();
        x.land(5, 500);
        x.ice(5, 40);
        // 10 warmer than half of 540: 4 melt, so that 36 are left.
        x.climate(280, 0, 4);
        x.pass(1);
        check.cells("a fourth to either side", x, 1, 4, 9, 18, 9);
    }

    @Said(under = "A year", value = GIVES)
    static void isJustAFourthWhereBothAreAlike(Check check) {
        // 50 times the ice by 200 is a fourth: 51 and 49 of difference, upon land of 150 and less.
        for (int difference = 49; difference <= 51; difference++) {
            IceLand x = new IceLand();
            x.land(0, 140);
            x.ice(0, 200);
            x.land(1, 340 - difference);
            x.pass(1);
            check.same("a difference of " + difference, x.cellIs(1, 1), Math.min(difference, 50));
        }
    }

    @Said(under = "A year", value = GIVES)
    static void isNothingIfBothAreAlike(Check check) {
        IceLand x = new IceLand();
        x.land(4, 60);
        x.ice(4, 140);
        x.land(5, 0);
        x.ice(5, 200);
        x.land(6, 200);
        x.land(3, 200);
        x.pass(1);
        check.cells("alike", x, 1, 3, 0, 140, 200, 0);
    }

    @Said(under = "A year", value = GIVES)
    static void isAFourthOfAFullCell(Check check) {
        IceLand x = Scene.FULL.make();
        x.climate(0, 0, 0);
        x.pass(1);
        check.cells("the head", x, 1, 0, 9999 - 2499, 2499);
        check.cells("in between", x, 1, 4, 2499, 9999 - 2 * 2499, 2499);
        check.cells("the end", x, 1, 10, 2499, 9999 - 2499);
    }

    @Said(under = "A year", value = GIVES)
    static void mayHeapUpMoreThanMayBeTold(Check check) {
        check.cells("ice", Scene.HEAPED.make(), 1, 3, 2499, 5001, 14997, 5001, 2499);
    }

    @Said(under = "A year", value = GOES)
    static void theEarliestYearsGoFirst(Check check) {
        IceLand x = new IceLand();
        x.ice(0, 3);
        x.pass(1);
        x.ice(0, 37);
        x.ice(1, 10);
        x.pass(1);
        // A surface of 99 and 40; 29 times 40 by 200 is 5: the 3 of the year 0, and 2 of the year 1.
        check.same("year 0 of the giver", x.layer(0, 0), 0);
        check.same("year 1 of the giver", x.layer(0, 1), 35);
        check.same("year 0 of the taker", x.layer(1, 0), 3);
        check.same("year 1 of the taker", x.layer(1, 1), 12);
    }

    @Said(under = "A year", value = GOES)
    static void whatCameToAGiverGoesOnInItsTurn(Check check) {
        IceLand x = new IceLand();
        x.ice(0, 3);
        x.pass(1);
        x.ice(0, 37);
        x.ice(1, 20);
        x.pass(1);
        check.same("3 of the year 0 came to 1, 2 of them went on", x.layer(1, 0), 1);
        check.same("of its own it keeps all", x.layer(1, 1), 20);
        check.same("what came to 2", x.layer(2, 0), 2);
    }

    @Said(under = "A year", value = GOES)
    static void whatComesBehindItsTurnDoesNotGoOn(Check check) {
        IceLand x = new IceLand();
        x.land(3, 300);
        x.ice(2, 3);
        x.pass(1);
        x.ice(2, 37);
        x.ice(1, 20);
        x.pass(1);
        check.same("toward the head 1 gives of its own", x.layer(0, 1), 2);
        check.same("and nothing of the year 0", x.layer(0, 0), 0);
        check.same("3 of the year 0 come to it behind that", x.layer(1, 0), 3);
        check.same("its own", x.layer(1, 1), 18);
    }

    @Said(under = "A year", value = GOES)
    static void whatComesDoesNotCountForWhatIsGiven(Check check) {
        IceLand x = new IceLand();
        x.land(0, 500);
        x.ice(0, 400);
        x.ice(1, 12);
        x.pass(1);
        // Of its own 12 the cell 1 gives 12 times 12 by 200, which is none, though 100 come to it.
        check.cells("a fall", x, 1, 0, 300, 112, 0);
    }

    @Said(under = "A year", value = GOES)
    static void whatGoesDoesNotCountForWhatIsGiven(Check check) {
        // A fourth of all 40 goes to the second side too, not of the 30 that are left.
        IceLand x = new IceLand();
        x.land(5, 500);
        x.ice(5, 40);
        x.pass(1);
        check.cells("to either side", x, 1, 4, 10, 20, 10);
    }

    @Said(under = "A year", value = GOES)
    static void layersOfTheFirstAndOfTheLastYearGo(Check check) {
        IceLand x = new IceLand();
        x.land(0, 300);
        x.ice(0, 3);
        x.pass(20);
        x.pass(20);
        x.pass(19);
        x.climate(-300, 13, 0);
        x.pass(1);
        // A fourth of 16: all of the year 0 and one of the year 60.
        check.same("year 0 of the taker", x.layer(1, 0), 3);
        check.same("year 60 of the giver", x.layer(0, 60), 12);
        check.same("year 60 of the taker", x.layer(1, 60), 14);
    }
}
