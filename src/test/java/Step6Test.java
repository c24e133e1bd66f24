/** Step 6 of a year: the bed sinks and rises. */
public final class Step6Test {
    private static final String GOES = "The BED of each CELL goes by 1 toward its BASE less a third of its ICE, "
        + "if it is not there.";

    public static void main(String[] args) {
        Check.run(Step6Test.class);
    }

    /** The beds of one cell behind each of so many years. */
    private static void beds(Check check, String when, IceLand x, int cell, int... due) {
        for (int i = 0; i < due.length; i++) {
            x.pass(1);
            check.same(when + ", year " + (i + 1), x.cellIs(cell, 0), due[i]);
        }
    }

    @Said(under = "A year", value = GOES)
    static void sinksBy1AYear(Check check) {
        IceLand x = new IceLand();
        x.ice(3, 9);
        beds(check, "under 9 units", x, 3, 99, 98, 97, 97, 97);
        check.same("the base stays", x.cellIs(3, 8), 100);
    }

    @Said(under = "A year", value = GOES)
    static void risesBy1AYear(Check check) {
        IceLand x = new IceLand();
        x.ice(3, 9);
        x.pass(3);
        x.climate(300, 0, 9);
        beds(check, "behind 9 units", x, 3, 98, 99, 100, 100, 100);
    }

    @Said(under = "A year", value = GOES)
    static void staysWhereItIsThere(Check check) {
        IceLand x = new IceLand();
        x.land(0, 0);
        x.land(11, 500);
        x.pass(1);
        check.cells("the head", x, 0, 0, 0, 100);
        check.cells("the end", x, 0, 10, 100, 500);
    }

    @Said(under = "A year", value = GOES)
    static void aThirdIsRoundedDown(Check check) {
        IceLand x = new IceLand();
        x.ice(2, 2);
        x.ice(4, 3);
        x.ice(6, 5);
        x.ice(8, 6);
        x.pass(4);
        check.cells("under 2, 3, 5 and 6", x, 0, 2, 100, 100, 99, 100, 99, 100, 98, 100);
    }

    @Said(under = "A year", value = GOES)
    static void theHeadAndTheEndSinkToo(Check check) {
        IceLand x = new IceLand();
        x.ice(0, 3);
        x.ice(11, 3);
        x.pass(2);
        check.cells("the head", x, 0, 0, 99, 100);
        check.cells("the end", x, 0, 10, 100, 99);
    }

    @Said(under = "A year", value = GOES)
    static void sinksBelow0(Check check) {
        IceLand x = new IceLand();
        x.land(11, 0);
        x.ice(11, 9);
        beds(check, "told as 0", x, 11, -1, -2, -3, -3);
        check.same("its surface", x.cellIs(11, 3), 6);
        check.same("its potential", x.cellIs(11, 9), 51);
        check.same("it stands in the sea", x.cellIs(11, 7), 1);
        check.same("its base", x.cellIs(11, 8), 0);
    }

    @Said(under = "A year", value = GOES)
    static void sinksBy1UnderAFullCellToo(Check check) {
        IceLand x = Scene.FULL.make();
        x.pass(1);
        check.cells("under 7000 and more", x, 0, 10, 99, 99);
        x.pass(19);
        check.same("in 20 years", x.cellIs(11, 0), 80);
    }

    @Said(under = "A year", value = GOES)
    static void turnsWhereTheIceDoes(Check check) {
        IceLand x = new IceLand();
        x.ice(3, 9);
        x.pass(2);
        // 10 warmer than half of 107: 6 of 9 units melt, so that the bed of 98 is to be 99.
        x.climate(63, 0, 6);
        x.pass(1);
        check.same("3 units are left", x.cellIs(3, 1), 3);
        check.same("rising", x.cellIs(3, 0), 99);
        x.climate(0, 0, 0);
        x.ice(3, 3);
        x.pass(1);
        check.same("sinking", x.cellIs(3, 0), 98);
    }
}
