/** Promise 12: floods. */
public final class Promise12Test {
    private static final String MANY = "Returns how many FLOODS there were.";

    public static void main(String[] args) {
        Check.run(Promise12Test.class);
    }

    private static IceLand twoLakes() {
        IceLand x = new IceLand();
        Lakes.addBetween(x, 2, 19, 20, 6);
        Lakes.addBetween(x, 8, 20, 19, 6);
        Lakes.meltOf(x, 6);
        return x;
    }

    @Said(under = "Promise 12", value = MANY)
    static void areNoneAtFirst(Check check) {
        check.same("of a new object", new IceLand().floods(), 0);
        check.same("ahead of the year", twoLakes().floods(), 0);
    }

    @Said(under = "Promise 12", value = MANY)
    static void areMoreByEachOne(Check check) {
        IceLand x = twoLakes();
        x.pass(1);
        check.same("two in one year", x.floods(), 2);
        x.climate(0, 0, 0);
        x.pass(3);
        check.same("none later", x.floods(), 2);
    }

    @Said(under = "Promise 12", value = MANY)
    static void areNoneByAsking(Check check) {
        IceLand x = twoLakes();
        check.same("would(3, 2, 2)", x.would(3, 2, 2), 0);
        check.same("none noted by asking", x.floods(), 0);
        x.forecast(3);
        check.same("none noted by a forecast", x.floods(), 0);
    }

    /** All cells are alike: 10 units fall on each in one year and melt in the next, and break out but for cell 11. */
    @Said(under = "Promise 12", value = MANY)
    static void areAsManyAsAllYearsBring(Check check) {
        IceLand x = new IceLand();
        for (int cell = 0; cell < 12; cell++) {
            x.ice(cell, 5);
        }
        for (int i = 0; i < 30; i++) {
            x.climate(-300, 10, 0);
            x.pass(1);
            x.climate(20 + Math.floorDiv(x.cellIs(0, 3), 2), 0, 5);
            x.pass(1);
        }
        check.same("floods in 60 years", x.floods(), 330);
        for (int flood = 0; flood < 330; flood += 7) {
            check.same("year of " + flood, x.flood(flood, 0), 2 * (flood / 11) + 2);
            check.same("cell of " + flood, x.flood(flood, 1), flood % 11);
            check.same("units of " + flood, x.flood(flood, 2), 10);
        }
        check.same("year of the last", x.flood(329, 0), 60);
    }
}
