/** Promise 1: a new object, and NONE. */
public final class Promise01Test {
    public static void main(String[] args) {
        Check check = new Check("Promise 1");
        IceLand x = new IceLand();
        int[] due = {100, 0, 0, 100, 0, 0, 0, 0, 100, 1000};
        for (int cell = 0; cell < 12; cell++) {
            for (int what = 0; what <= 9; what++) {
                check.same("cellIs(" + cell + ", " + what + ")", x.cellIs(cell, what), due[what]);
            }
            check.same("layer of the year 0", x.layer(cell, 0), 0);
            check.same("yearAt(" + cell + ", 0)", x.yearAt(cell, 0), IceLand.NONE);
            check.same("common", x.common(cell, cell), 0);
        }
        for (int what = 0; what <= 5; what++) {
            check.same("total(" + what + ")", x.total(what), 0);
        }
        check.same("NONE", IceLand.NONE, -1);
        check.same("floods()", x.floods(), 0);
        check.same("iceAnew()", x.iceAnew(), 0);
        check.same("front(0)", x.front(0), IceLand.NONE);
        check.noCell("miss(0)", () -> x.miss(0));
        check.same("sea(0)", x.sea(0), 0);
        check.same("ash()", x.ash(), false);
        nothingComesOfItself(check);
        check.end();
    }

    /** The warmth, snow and factor of 0: neither snow nor melt, on high and on low land. */
    private static void nothingComesOfItself(Check check) {
        IceLand x = new IceLand();
        x.land(3, 0);
        x.ice(3, 3);
        check.same("pass(1)", x.pass(1), 1);
        check.same("ice", x.total(0), 3);
        check.same("water", x.total(1), 0);
        check.same("snow", x.total(4), 0);
        check.same("bed under 3 units", x.cellIs(3, 0), -1);
        check.same("bed without ice", x.cellIs(4, 0), 100);
        IceLand warm = new IceLand();
        warm.climate(1, 0, 0);
        warm.land(3, 0);
        warm.ice(3, 1);
        warm.pass(1);
        check.same("no factor, no melt", warm.total(1) + warm.total(2), 0);
    }
}
