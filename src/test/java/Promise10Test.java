/** Promise 10: yearAt. */
public final class Promise10Test {
    public static void main(String[] args) {
        Check.run(Promise10Test.class);
    }

    /** Two units of the year 0, and one of the year 2 upon them; cell 1 is bare. */
    private static IceLand land() {
        IceLand x = new IceLand();
        x.ice(0, 2);
        x.pass(2);
        x.ice(0, 1);
        return x;
    }

    @Said(under = "Promise 10", value = "Returns the year of the unit of ICE at a depth.")
    static void passesOverEmptyLayers(Check check) {
        IceLand x = land();
        check.same("yearAt(0, 0)", x.yearAt(0, 0), 2);
        check.same("yearAt(0, 1)", x.yearAt(0, 1), 0);
        check.same("yearAt(0, 2)", x.yearAt(0, 2), 0);
    }

    @Said(under = "Promise 10", value = "Returns the year of the unit of ICE at a depth.")
    static void comesDownFromTheYear60ToTheYear0(Check check) {
        IceLand x = land();
        x.pass(20);
        x.pass(20);
        x.pass(18);
        x.ice(0, 1);
        check.same("the year 60", x.yearAt(0, 0), 60);
        check.same("the year 2", x.yearAt(0, 1), 2);
        check.same("the year 0", x.yearAt(0, 2), 0);
        check.same("the last unit", x.yearAt(0, 3), 0);
        x.ice(11, 2);
        check.same("of the end", x.yearAt(11, 1), 60);
    }

    @Said(under = "Promise 10", value = "- `depth`: 0 for the uppermost unit")
    static void theUppermostUnitIsOfTheLatestYear(Check check) {
        IceLand x = land();
        check.same("of the year 2", x.yearAt(0, 0), 2);
        x.pass(1);
        check.same("a year without ice later", x.yearAt(0, 0), 2);
        x.ice(0, 1);
        check.same("of the year 3", x.yearAt(0, 0), 3);
        check.same("below it", x.yearAt(0, 1), 2);
    }

    @Said(under = "Promise 10", value = "Returns the year; NONE if the ICE is not so deep.")
    static void thereIsNoneBelowTheIce(Check check) {
        IceLand x = land();
        check.same("the lowest", x.yearAt(0, 2), 0);
        check.same("below it", x.yearAt(0, 3), IceLand.NONE);
        check.same("far below it", x.yearAt(0, Integer.MAX_VALUE), IceLand.NONE);
    }

    @Said(under = "Promise 10", value = "Returns the year; NONE if the ICE is not so deep.")
    static void thereIsNoneOnBareLand(Check check) {
        IceLand x = land();
        check.same("yearAt(1, 0)", x.yearAt(1, 0), IceLand.NONE);
        check.same("yearAt(11, MAX)", x.yearAt(11, Integer.MAX_VALUE), IceLand.NONE);
    }

    @Said(under = "Promise 10", value = "Returns the year; NONE if the ICE is not so deep.")
    static void goesDownThroughAFullCell(Check check) {
        IceLand x = Scene.FULL.make();
        check.same("yearAt(11, 9998)", x.yearAt(11, 9998), 0);
        check.same("yearAt(11, 9999)", x.yearAt(11, 9999), IceLand.NONE);
        IceLand y = Scene.HEAPED.make();
        check.same("yearAt(5, 14996)", y.yearAt(5, 14996), 0);
        check.same("yearAt(5, 14997)", y.yearAt(5, 14997), IceLand.NONE);
    }

    @Said(under = "Promise 10", value = "Throws `IndexOutOfBoundsException` if there is no such CELL")
    static void refusesACellThatIsNot(Check check) {
        check.noSuch("yearAt(-1, 0)", x -> x.yearAt(-1, 0));
        check.noSuch("yearAt(12, 0)", x -> x.yearAt(12, 0));
        check.noSuch("yearAt(MIN, 0)", x -> x.yearAt(Integer.MIN_VALUE, 0));
        check.noSuch("yearAt(MAX, 0)", x -> x.yearAt(Integer.MAX_VALUE, 0));
    }

    @Said(under = "Promise 10", value = "Throws `IndexOutOfBoundsException` if there is no such CELL")
    static void refusesTheCellAheadOfTheDepth(Check check) {
        check.noSuch("yearAt(12, -1)", x -> x.yearAt(12, -1));
        check.noSuch("yearAt(-1, -1)", x -> x.yearAt(-1, -1));
    }

    @Said(under = "Promise 10", value = "Throws `IllegalArgumentException` if depth is below 0")
    static void refusesADepthBelow0(Check check) {
        check.outOfRange("yearAt(0, -1)", x -> x.yearAt(0, -1));
        check.outOfRange("yearAt(11, -1)", x -> x.yearAt(11, -1));
        check.outOfRange("yearAt(5, MIN)", x -> x.yearAt(5, Integer.MIN_VALUE));
    }
}
