/** Promise 11: common. */
public final class Promise11Test {
    private static final String BOTH = "Returns how many years with ASH the cores of two CELLS both have.";
    private static final String ITSELF = "Returns how many; of one CELL and itself those that its core has.";
    private static final String NO_CELL = "Throws `IndexOutOfBoundsException` if there is no such CELL, of either";

    public static void main(String[] args) {
        Check.run(Promise11Test.class);
    }

    /** Ice of the years 0 and 2 in both of the cells 2 and 7, of the year 1 in cell 2 alone; ash in 0 and 1. */
    private static IceLand land() {
        IceLand x = new IceLand();
        x.ice(2, 1);
        x.ice(7, 1);
        x.ash();
        x.pass(1);
        x.ash();
        x.ice(2, 1);
        x.pass(1);
        x.ice(2, 1);
        x.ice(7, 1);
        return x;
    }

    @Said(under = "Promise 11", value = BOTH)
    static void countsThoseThatBothHave(Check check) {
        IceLand x = land();
        check.same("common(2, 7)", x.common(2, 7), 1);
        check.same("the other way", x.common(7, 2), 1);
    }

    @Said(under = "Promise 11", value = BOTH)
    static void countsYearsWithAshAlone(Check check) {
        IceLand x = land();
        check.same("year 2 without ash", x.common(2, 7), 1);
        x.ash();
        check.same("ash may be told after the ice", x.common(2, 7), 2);
        IceLand y = new IceLand();
        y.ice(2, 1);
        y.ice(7, 1);
        check.same("no ash at all", y.common(2, 7), 0);
    }

    @Said(under = "Promise 11", value = BOTH)
    static void anEmptyCoreHasNone(Check check) {
        IceLand x = land();
        check.same("one of two", x.common(2, 3), 0);
        check.same("the other one", x.common(3, 2), 0);
        check.same("both", x.common(11, 3), 0);
    }

    @Said(under = "Promise 11", value = BOTH)
    static void countsAllYears(Check check) {
        // All cells are alike, so that none gives ice to another one.
        IceLand x = new IceLand();
        for (int cell = 0; cell < 12; cell++) {
            x.ice(cell, 1);
        }
        x.climate(-300, 1, 0);
        x.ash();
        for (int year = 1; year <= 60; year++) {
            x.pass(1);
            x.ash();
        }
        check.same("the head and the end", x.common(0, 11), 61);
        check.same("the end and itself", x.common(11, 11), 61);
    }

    @Said(under = "Promise 11", value = ITSELF)
    static void ofOneCellAndItselfThoseOfItsCore(Check check) {
        IceLand x = land();
        check.same("common(2, 2)", x.common(2, 2), 2);
        check.same("common(7, 7)", x.common(7, 7), 1);
        check.same("of an empty core", x.common(3, 3), 0);
    }

    @Said(under = "Promise 11", value = NO_CELL)
    static void refusesAFirstCellThatIsNot(Check check) {
        check.noSuch("common(-1, 0)", x -> x.common(-1, 0));
        check.noSuch("common(12, 11)", x -> x.common(12, 11));
        check.noSuch("common(MIN, 0)", x -> x.common(Integer.MIN_VALUE, 0));
        check.noSuch("common(MAX, 0)", x -> x.common(Integer.MAX_VALUE, 0));
    }

    @Said(under = "Promise 11", value = NO_CELL)
    static void refusesASecondCellThatIsNot(Check check) {
        check.noSuch("common(0, -1)", x -> x.common(0, -1));
        check.noSuch("common(11, 12)", x -> x.common(11, 12));
        check.noSuch("common(0, MIN)", x -> x.common(0, Integer.MIN_VALUE));
        check.noSuch("common(0, MAX)", x -> x.common(0, Integer.MAX_VALUE));
    }

    @Said(under = "Promise 11", value = NO_CELL)
    static void refusesTwoCellsThatAreNot(Check check) {
        check.noSuch("common(-1, -1)", x -> x.common(-1, -1));
        check.noSuch("common(12, 12)", x -> x.common(12, 12));
        check.noSuch("common(MIN, MAX)", x -> x.common(Integer.MIN_VALUE, Integer.MAX_VALUE));
    }
}
