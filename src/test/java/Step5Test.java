/** Step 5 of a year: calving. */
public final class Step5Test {
    private static final String CALVES = "The CELLS are looked at from 11 to 0, till one does not STAND IN THE SEA, "
        + "or has ICE and does not float; one with ICE floats, if 9 times its ICE is less than 10 times what its BED "
        + "is below the level: all its ICE becomes BERGS then.";

    public static void main(String[] args) {
        Check.run(Step5Test.class);
    }

    /** The bergs of cell 11 in a sea of 200, beside dry land of the same surface. */
    private static int bergsAtEnd(Check check, int bed, int ice) {
        IceLand x = new IceLand();
        x.sea(200);
        x.land(11, bed);
        x.ice(11, ice);
        x.land(10, bed + ice);
        x.pass(1);
        check.same("ice and bergs", x.total(0) + x.total(3), ice);
        check.same("layer", x.layer(11, 0), x.total(0));
        check.same("ice of the end", x.cellIs(11, 1), x.total(0));
        return x.total(3);
    }

    @Said(under = "A year", value = CALVES)
    static void floatsIfNineTimesIsLessThanTenTimes(Check check) {
        check.same("999 against 1000", bergsAtEnd(check, 100, 111), 111);
        check.same("9 against 10", bergsAtEnd(check, 199, 1), 1);
    }

    @Said(under = "A year", value = CALVES)
    static void standsOnTheGroundIfBothAreAlike(Check check) {
        check.same("900 against 900", bergsAtEnd(check, 110, 100), 0);
        check.same("90 against 90", bergsAtEnd(check, 191, 10), 0);
    }

    @Said(under = "A year", value = CALVES)
    static void standsOnTheGroundIfItIsMore(Check check) {
        check.same("1008 against 1000", bergsAtEnd(check, 100, 112), 0);
        check.same("18 against 10", bergsAtEnd(check, 199, 2), 0);
    }

    @Said(under = "A year", value = CALVES)
    static void allItsIceBecomesBergs(Check check) {
        IceLand x = new IceLand();
        x.sea(250);
        x.ice(11, 4);
        x.climate(-300, 3, 0);
        // Dry land ahead, upon which snow falls.
        x.land(10, 250);
        x.pass(1);
        check.same("bergs", x.total(3), 7);
        check.same("ice", x.cellIs(11, 1), 0);
        check.same("layer of the year 0", x.layer(11, 0), 0);
        check.same("layer of the year 1", x.layer(11, 1), 0);
        check.same("no core", x.yearAt(11, 0), IceLand.NONE);
    }

    @Said(under = "A year", value = CALVES)
    static void goesOnOverCellsWithoutIceUpToTheHead(Check check) {
        IceLand x = new IceLand();
        x.sea(200);
        x.ice(10, 3);
        x.ice(0, 2);
        x.pass(1);
        check.same("bergs", x.total(3), 5);
        check.same("no ice left", x.total(0), 0);
        check.same("no front", x.front(1), IceLand.NONE);
    }

    @Said(under = "A year", value = CALVES)
    static void endsAtOneThatDoesNotStandInTheSea(Check check) {
        IceLand x = new IceLand();
        x.sea(200);
        x.land(11, 200);
        x.ice(10, 3);
        x.pass(1);
        check.same("behind an end at the level", x.total(3), 0);
        IceLand y = new IceLand();
        y.sea(200);
        y.land(5, 200);
        y.ice(6, 3);
        y.ice(4, 2);
        y.pass(1);
        check.same("down to dry land alone", y.total(3), 3);
        IceLand z = new IceLand();
        z.ice(11, 3);
        z.pass(1);
        check.same("without a sea", z.total(3), 0);
    }

    @Said(under = "A year", value = CALVES)
    static void dryLandWithIceDoesNotCalve(Check check) {
        IceLand x = new IceLand();
        x.sea(100);
        x.ice(11, 1);
        x.pass(1);
        check.same("a bed at the level", x.total(3), 0);
    }

    /** The bergs of cells 10 and 11 whose surfaces are 212, in a sea of 200. */
    private static int bergs(int bed10, int ice10, int bed11, int ice11) {
        IceLand x = new IceLand();
        x.sea(200);
        x.land(9, 212);
        x.land(10, bed10);
        x.ice(10, ice10);
        x.land(11, bed11);
        x.ice(11, ice11);
        x.pass(1);
        return x.total(3);
    }

    @Said(under = "A year", value = CALVES)
    static void endsAtOneThatDoesNotFloat(Check check) {
        check.same("a grounded tongue keeps those inland", bergs(91, 121, 100, 112), 0);
        check.same("a floating one goes ahead of it", bergs(100, 112, 91, 121), 121);
        check.same("two floating ones", bergs(91, 121, 91, 121), 242);
    }

    @Said(under = "A year", value = CALVES)
    static void floatsInASeaOf0WhereTheBedSankBelowIt(Check check) {
        IceLand y = sunkenByTwo();
        check.same("bed", y.cellIs(11, 0), -2);
        y.ice(11, 2);
        y.climate(0, 0, 0);
        y.pass(1);
        check.same("18 against 20", y.total(3), 2);
        IceLand z = sunkenByTwo();
        z.ice(11, 3);
        z.climate(0, 0, 0);
        z.pass(1);
        check.same("27 against 20", z.total(3), 0);
    }

    /** A bed of -2 at the end, told as 0, without ice. */
    private static IceLand sunkenByTwo() {
        IceLand x = new IceLand();
        x.land(11, 0);
        x.ice(11, 9);
        x.pass(3);
        x.climate(300, 0, 9);
        x.pass(1);
        return x;
    }
}
