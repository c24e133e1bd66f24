/** Promise 1: a new object, and NONE. */
public final class Promise01Test {
    private static final String NEW = "`IceLand()`: The year 0; no ICE and WATER; the warmth, SNOW and factor are 0.";

    public static void main(String[] args) {
        Check.run(Promise01Test.class);
    }

    @Said(under = "Promise 1", value = NEW)
    static void theYearIs0(Check check) {
        IceLand x = new IceLand();
        check.same("front(0)", x.front(0), IceLand.NONE);
        check.outOfRange(Scene.NEW, "front(1)", y -> y.front(1));
        x.ice(3, 7);
        check.same("ice told is of the year 0", x.layer(3, 0), 7);
        check.same("its year", x.yearAt(3, 0), 0);
        check.same("pass(1)", x.pass(1), 1);
    }

    @Said(under = "Promise 1", value = NEW)
    static void thereIsNoIceAndNoWater(Check check) {
        IceLand x = new IceLand();
        int[] due = {100, 0, 0, 100, 0, 0, 0, 0, 100, 1000};
        for (int cell = 0; cell < 12; cell++) {
            for (int what = 0; what <= 9; what++) {
                check.same("cellIs(" + cell + ", " + what + ")", x.cellIs(cell, what), due[what]);
            }
            check.same("layer(" + cell + ", 0)", x.layer(cell, 0), 0);
            check.same("layer(" + cell + ", 60)", x.layer(cell, 60), 0);
            check.same("yearAt(" + cell + ", 0)", x.yearAt(cell, 0), IceLand.NONE);
            check.same("common(" + cell + ", 0)", x.common(cell, 0), 0);
        }
        for (int what = 0; what <= 5; what++) {
            check.same("total(" + what + ")", x.total(what), 0);
        }
        check.same("iceAnew()", x.iceAnew(), 0);
    }

    @Said(under = "Promise 1", value = NEW)
    static void thereAreNoFloodsNoForecastsNoAsh(Check check) {
        IceLand x = new IceLand();
        check.same("floods()", x.floods(), 0);
        check.same("ash()", x.ash(), false);
        check.same("sea(0)", x.sea(0), 0);
        check.noSuch(Scene.NEW, "flood(0, 0)", y -> y.flood(0, 0));
        check.noSuch(Scene.NEW, "miss(0)", y -> y.miss(0));
    }

    @Said(under = "Promise 1", value = NEW)
    static void noSnowFallsAndNoIceMelts(Check check) {
        IceLand x = new IceLand();
        x.land(3, 0);
        x.ice(3, 3);
        check.same("pass(20)", x.pass(20), 20);
        check.same("ice", x.total(0), 3);
        check.same("water", x.total(1), 0);
        check.same("water to the sea", x.total(2), 0);
        check.same("snow", x.total(4), 0);
        check.same("bed under 3 units", x.cellIs(3, 0), -1);
        check.same("bed without ice", x.cellIs(4, 0), 100);
        check.cells("the ice stays", x, 1, 2, 0, 3, 0);
    }

    @Said(under = "Promise 1", value = NEW)
    static void anotherObjectChangesNothing(Check check) {
        String before = Question.CELLS.askedOf(new IceLand()) + Question.ANNALS.askedOf(new IceLand());
        IceLand other = Scene.LAST.make();
        check.same("the other one's year", other.front(60) >= 0, true);
        check.same("a new one is as ever",
            Question.CELLS.askedOf(new IceLand()) + Question.ANNALS.askedOf(new IceLand()), before);
    }

    @Said(under = "Cores, forecasts", value = "The constants: `NONE = -1`: There is none.")
    static void noneIsLessThanAnyNumber(Check check) {
        check.same("NONE", IceLand.NONE, -1);
    }
}
