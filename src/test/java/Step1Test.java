/** Step 1 of a year: snow and melt. */
public final class Step1Test {
    private static final String WARMTH = "The WARMTH of a CELL is the warmth told, less half of its SURFACE.";
    private static final String SNOW = "If that is below 0, and the CELL has ICE or does not STAND IN THE SEA, "
        + "as many units of SNOW fall as are told, and are in its LAYER of this year.";
    private static final String MELT = "If it is above 0, its MELT is the WARMTH times the factor told, "
        + "divided by 10, at most its ICE; that much goes from its LAYERS, the latest years first, "
        + "and becomes WATER of the CELL.";

    public static void main(String[] args) {
        Check.run(Step1Test.class);
    }

    private static IceLand afterAYear(int warmth, int snow, int factor) {
        IceLand x = new IceLand();
        x.climate(warmth, snow, factor);
        x.pass(1);
        return x;
    }

    /** How much melts of ice on cell 5, whose surface is 103 with 3 units, and of no other cell. */
    private static int moltenOf(Check check, int ice, int warmth, int factor) {
        IceLand x = new IceLand();
        x.ice(5, ice);
        x.climate(warmth, 9, factor);
        x.pass(1);
        check.same("ice and water", x.total(0) + x.total(1), ice);
        check.same("snow", x.total(4), 0);
        return x.total(1);
    }

    @Said(under = "A year", value = WARMTH)
    static void iceMakesACellColder(Check check) {
        IceLand x = new IceLand();
        x.ice(3, 2);
        x.climate(50, 7, 9);
        x.pass(1);
        check.cells("50 less half of 102, and of 100", x, 1, 2, 0, 9, 0);
    }

    @Said(under = "A year", value = WARMTH)
    static void halfOfAnOddSurfaceIsRoundedDown(Check check) {
        IceLand x = new IceLand();
        x.land(3, 101);
        x.land(4, 102);
        x.climate(50, 7, 9);
        x.pass(1);
        check.cells("50 less half of 100, 101 and 102", x, 1, 2, 0, 0, 7);
    }

    @Said(under = "A year", value = SNOW)
    static void snowFallsBelow0(Check check) {
        IceLand x = afterAYear(49, 7, 9);
        check.same("a warmth of -1", x.total(4), 84);
        check.same("ice of the head", x.cellIs(0, 1), 7);
        check.same("ice of the end", x.cellIs(11, 1), 7);
        check.same("no water", x.total(1) + x.total(2), 0);
    }

    @Said(under = "A year", value = SNOW)
    static void noSnowFallsAt0(Check check) {
        check.same("a warmth of 0", afterAYear(50, 7, 9).total(4), 0);
        IceLand x = new IceLand();
        x.ice(4, 3);
        x.climate(51, 7, 9);
        x.pass(1);
        check.same("a warmth of 0 upon ice", x.layer(4, 1), 0);
    }

    @Said(under = "A year", value = SNOW)
    static void noSnowFallsAbove0(Check check) {
        check.same("a warmth of 1", afterAYear(51, 7, 9).total(4), 0);
        check.same("without a factor", afterAYear(51, 7, 0).total(4), 0);
    }

    @Said(under = "A year", value = SNOW)
    static void noSnowFallsWhereNoneIsTold(Check check) {
        IceLand x = afterAYear(-300, 0, 9);
        check.same("none told", x.total(4), 0);
        check.same("no layer", x.layer(4, 1), 0);
        check.same("no front", x.front(1), IceLand.NONE);
    }

    @Said(under = "A year", value = SNOW)
    static void theSeaTakesSnowWhereNoIceIs(Check check) {
        IceLand x = new IceLand();
        x.sea(101);
        x.land(2, 101);
        x.land(3, 100);
        x.climate(0, 4, 0);
        x.pass(1);
        check.same("snow on land at the level alone", x.total(4), 4);
        check.same("on land", x.layer(2, 1), 4);
        check.same("in the sea", x.layer(3, 1), 0);
    }

    @Said(under = "A year", value = SNOW)
    static void snowFallsOnIceInTheSea(Check check) {
        IceLand x = new IceLand();
        x.sea(101);
        x.ice(5, 1);
        x.ice(6, 3);
        // Dry land at the end, so that nothing calves.
        x.land(11, 300);
        x.climate(0, 4, 0);
        x.pass(1);
        check.same("upon a unit", x.layer(5, 1), 4);
        check.same("upon 3 units", x.layer(6, 1), 4);
        check.same("and on land at the end", x.total(4), 12);
    }

    @Said(under = "A year", value = SNOW)
    static void snowIsInTheLayerOfThisYear(Check check) {
        IceLand x = new IceLand();
        x.climate(0, 7, 0);
        x.pass(2);
        check.same("the year 0", x.layer(4, 0), 0);
        check.same("the year 1", x.layer(4, 1), 7);
        check.same("the year 2", x.layer(4, 2), 7);
        check.same("the year 3", x.layer(4, 3), 0);
    }

    @Said(under = "A year", value = MELT)
    static void nothingMeltsAt0(Check check) {
        IceLand x = new IceLand();
        x.ice(4, 3);
        x.climate(51, 7, 9);
        x.pass(1);
        check.same("a warmth of 0", x.cellIs(4, 1), 3);
        check.same("no water", x.cellIs(4, 2), 0);
    }

    @Said(under = "A year", value = MELT)
    static void nothingMeltsBelow0(Check check) {
        IceLand x = new IceLand();
        x.ice(4, 3);
        x.climate(-300, 0, 9);
        x.pass(1);
        check.same("a warmth far below 0", x.cellIs(4, 1), 3);
        check.same("no water", x.total(1), 0);
    }

    @Said(under = "A year", value = MELT)
    static void theTenthIsRoundedDown(Check check) {
        check.same("3 times 6", moltenOf(check, 3, 54, 6), 1);
        check.same("3 times 3", moltenOf(check, 3, 54, 3), 0);
        check.same("4 times 5", moltenOf(check, 3, 55, 5), 2);
        check.same("1 times 9", moltenOf(check, 3, 52, 9), 0);
        check.same("2 times 5", moltenOf(check, 3, 53, 5), 1);
    }

    @Said(under = "A year", value = MELT)
    static void atMostAllIceMelts(Check check) {
        check.same("2 of 3", moltenOf(check, 3, 61, 2), 2);
        check.same("3 of 3", moltenOf(check, 3, 61, 3), 3);
        check.same("4 of 3", moltenOf(check, 3, 61, 4), 3);
        check.same("far more than there is", moltenOf(check, 3, 300, 9), 3);
    }

    @Said(under = "A year", value = MELT)
    static void nothingMeltsWithoutIceOrFactor(Check check) {
        check.same("without ice", afterAYear(300, 0, 9).total(1), 0);
        check.same("without a factor", moltenOf(check, 3, 300, 0), 0);
    }

    /** Layers of 4, 3 and 2 units; the bed sank by 2: a surface of 97, half of which is 48. */
    private static IceLand layers() {
        IceLand x = new IceLand();
        x.land(5, 90);
        x.ice(5, 4);
        x.pass(1);
        x.ice(5, 3);
        x.pass(1);
        x.ice(5, 2);
        return x;
    }

    private static void melts(Check check, int factor, int of0, int of1, int of2) {
        IceLand x = layers();
        x.climate(58, 0, factor);
        x.pass(1);
        check.same(factor + " units: the year 0", x.layer(5, 0), of0);
        check.same(factor + " units: the year 1", x.layer(5, 1), of1);
        check.same(factor + " units: the year 2", x.layer(5, 2), of2);
        check.same(factor + " units: ice", x.cellIs(5, 1), of0 + of1 + of2);
        check.same(factor + " units: water", x.cellIs(5, 2), factor);
    }

    @Said(under = "A year", value = MELT)
    static void theLatestYearsMeltFirst(Check check) {
        check.same("surface", layers().cellIs(5, 3), 97);
        melts(check, 1, 4, 3, 1);
        melts(check, 2, 4, 3, 0);
        melts(check, 3, 4, 2, 0);
        melts(check, 5, 4, 0, 0);
        melts(check, 8, 1, 0, 0);
        melts(check, 9, 0, 0, 0);
    }

    @Said(under = "A year", value = MELT)
    static void whatMeltsIsWaterOfThatCell(Check check) {
        IceLand x = new IceLand();
        // A hollow, so that the water stays.
        x.land(5, 40);
        x.ice(5, 7);
        x.climate(300, 0, 9);
        x.pass(1);
        check.cells("water", x, 2, 4, 0, 7, 0);
        check.same("no ice", x.total(0), 0);
    }
}
