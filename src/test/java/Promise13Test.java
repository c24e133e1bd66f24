/** Promise 13: flood. */
public final class Promise13Test {
    public static void main(String[] args) {
        Check check = new Check("Promise 13");
        IceLand x = new IceLand();
        x.pass(1);
        Lakes.addBetween(x, 2, 19, 20, 6);
        // 12 units behind a tongue of 19 are too few, behind one of 12 enough.
        Lakes.addBetween(x, 6, 19, 0, 6);
        Lakes.addBetween(x, 9, 12, 0, 6);
        Lakes.meltOf(x, 6);
        check.noCell("flood(0, 0) ahead of any", () -> x.flood(0, 0));
        x.pass(1);
        tellsOf(check, x, 0, 2, 2, 18);
        tellsOf(check, x, 1, 2, 9, 12);
        check.same("floods()", x.floods(), 2);
        check.noCell("flood(-1, 0)", () -> x.flood(-1, 0));
        check.noCell("flood(2, 0)", () -> x.flood(2, 0));
        check.noCell("flood(2, 3)", () -> x.flood(2, 3));
        check.noCell("flood(MIN, -1)", () -> x.flood(Integer.MIN_VALUE, -1));
        check.noCell("flood(MAX, 0)", () -> x.flood(Integer.MAX_VALUE, 0));
        check.outOfRange("flood(0, -1)", () -> x.flood(0, -1));
        check.outOfRange("flood(1, 3)", () -> x.flood(1, 3));
        check.outOfRange("flood(0, MAX)", () -> x.flood(0, Integer.MAX_VALUE));
        check.outOfRange("flood(0, MIN)", () -> x.flood(0, Integer.MIN_VALUE));
        check.end();
    }

    private static void tellsOf(Check check, IceLand x, int flood, int year, int cell, int units) {
        check.same("year of flood " + flood, x.flood(flood, 0), year);
        check.same("cell of flood " + flood, x.flood(flood, 1), cell);
        check.same("units of flood " + flood, x.flood(flood, 2), units);
    }
}
