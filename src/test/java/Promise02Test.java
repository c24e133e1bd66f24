/** Promise 2: land. */
public final class Promise02Test {
    public static void main(String[] args) {
        Check check = new Check("Promise 2");
        tells(check);
        refuses(check);
        answersTheBedNotTheBase(check);
        check.end();
    }

    private static void tells(Check check) {
        IceLand x = new IceLand();
        check.same("land(0, 0)", x.land(0, 0), 100);
        check.same("land(0, 500)", x.land(0, 500), 0);
        check.same("land(0, 7)", x.land(0, 7), 500);
        check.same("land(11, 20)", x.land(11, 20), 100);
        check.same("bed", x.cellIs(0, 0), 7);
        check.same("base", x.cellIs(0, 8), 7);
        check.same("surface", x.cellIs(0, 3), 7);
        check.same("bed of 11", x.cellIs(11, 0), 20);
        check.same("bed of 1", x.cellIs(1, 0), 100);
        x.pass(3);
        check.same("a bed at its base stays", x.cellIs(0, 0), 7);
    }

    private static void refuses(Check check) {
        IceLand x = new IceLand();
        x.land(4, 90);
        // The warmth of cell 4 is 61 less half of 93: 15 times 2, a tenth of that.
        x.ice(4, 3);
        x.climate(61, 0, 2);
        x.pass(1);
        x.ice(5, 1);
        check.same("ice of 4", x.cellIs(4, 1), 0);
        check.same("water of 4", x.cellIs(4, 2), 3);
        String before = Check.stateOf(x);
        check.noCell("land(-1, 5)", () -> x.land(-1, 5));
        check.noCell("land(12, 5)", () -> x.land(12, 5));
        check.noCell("land(12, 501)", () -> x.land(12, 501));
        check.noCell("land(MIN, -1)", () -> x.land(Integer.MIN_VALUE, -1));
        check.noCell("land(MAX, 5)", () -> x.land(Integer.MAX_VALUE, 5));
        check.outOfRange("land(0, -1)", () -> x.land(0, -1));
        check.outOfRange("land(0, 501)", () -> x.land(0, 501));
        check.outOfRange("land(5, 501) on ice", () -> x.land(5, 501));
        check.notNow("land(5, 500) on ice", () -> x.land(5, 500));
        check.notNow("land(4, 0) under water", () -> x.land(4, 0));
        check.same("refused calls change nothing", Check.stateOf(x), before);
        IceLand y = new IceLand();
        y.land(4, 90);
        y.ice(4, 1);
        y.climate(55, 0, 1);
        y.pass(1);
        check.same("one unit of water", y.cellIs(4, 2), 1);
        check.same("and no ice", y.cellIs(4, 1), 0);
        check.notNow("land(4, 90) under one unit of water", () -> y.land(4, 90));
    }

    private static void answersTheBedNotTheBase(Check check) {
        IceLand x = new IceLand();
        x.ice(11, 9);
        x.pass(3);
        check.same("sunk bed", x.cellIs(11, 0), 97);
        x.climate(300, 0, 9);
        x.pass(1);
        check.same("ice molten", x.cellIs(11, 1), 0);
        check.same("base", x.cellIs(11, 8), 100);
        check.same("land(11, 50)", x.land(11, 50), 98);
        check.same("base told", x.cellIs(11, 8), 50);
        x.pass(1);
        check.same("stays at the new base", x.cellIs(11, 0), 50);
    }
}
