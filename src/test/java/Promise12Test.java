/** Promise 12: floods. */
public final class Promise12Test {
    public static void main(String[] args) {
        Check check = new Check("Promise 12");
        IceLand x = new IceLand();
        check.same("none at first", x.floods(), 0);
        Lakes.addBetween(x, 2, 19, 20, 6);
        Lakes.addBetween(x, 8, 20, 19, 6);
        Lakes.meltOf(x, 6);
        check.same("none foreseen by asking", x.would(3, 2, 2), 0);
        check.same("none noted by asking", x.floods(), 0);
        x.forecast(3);
        check.same("none noted by a forecast", x.floods(), 0);
        x.pass(1);
        check.same("two in one year", x.floods(), 2);
        x.climate(0, 0, 0);
        x.pass(3);
        check.same("none later", x.floods(), 2);
        many(check);
        check.end();
    }

    /** All cells are alike: 10 units fall on each in one year and melt in the next, and break out but for cell 11. */
    private static void many(Check check) {
        IceLand x = new IceLand();
        for (int cell = 0; cell < 12; cell++) {
            x.ice(cell, 5);
        }
        for (int i = 0; i < 30; i++) {
            x.climate(-300, 10, 0);
            x.pass(1);
            x.climate(20 + Math.floorDiv(x.cellIs(0, 3), 2), 0, 5);
            x.pass(1);
        }
        check.same("floods in 60 years", x.floods(), 330);
        for (int flood = 0; flood < 330; flood += 7) {
            check.same("year of " + flood, x.flood(flood, 0), 2 * (flood / 11) + 2);
            check.same("cell of " + flood, x.flood(flood, 1), flood % 11);
            check.same("units of " + flood, x.flood(flood, 2), 10);
        }
    }
}
