/** Step 4 of a year: floods. */
public final class Step4Test {
    public static void main(String[] args) {
        Check check = new Check("Step 4");
        byTheLeastIceBeside(check);
        tenUnitsAtLeast(check);
        atTheEnds(check);
        iceStays(check);
        inTheSea(check);
        check.end();
    }

    /** The units of water that break out of cell 5, three times as many as melt of each of three tongues. */
    private static int out(int before, int behind, int melt) {
        IceLand x = Lakes.between(before, behind, melt);
        x.pass(1);
        return x.floods() == 0 ? 0 : x.flood(0, 2);
    }

    private static void byTheLeastIceBeside(Check check) {
        check.same("18 against 20 and 20", out(20, 20, 6), 0);
        check.same("18 against 19 and 20", out(19, 20, 6), 18);
        check.same("18 against 20 and 19", out(20, 19, 6), 18);
        check.same("18 against 19 and 19", out(19, 19, 6), 18);
        check.same("12 against 13 alone ahead", out(13, 0, 6), 12);
        check.same("12 against 14 alone ahead", out(14, 0, 6), 0);
        check.same("12 against 13 alone behind", out(0, 13, 6), 12);
        check.same("12 against 14 alone behind", out(0, 14, 6), 0);
        check.same("18 against none", out(0, 0, 18), 0);
    }

    private static void tenUnitsAtLeast(Check check) {
        check.same("9 against 2 and 2", out(2, 2, 3), 0);
        check.same("10 against 11", out(11, 0, 5), 10);
        check.same("10 against 12", out(12, 0, 5), 0);
        check.same("10 against 2", out(2, 0, 5), 10);
    }

    private static void atTheEnds(Check check) {
        check.same("at the head, 12 against 13", cellOfFlood(0, 0, 13), 0);
        check.same("at the head, 12 against 14", cellOfFlood(0, 0, 14), IceLand.NONE);
        check.same("12 against 13 of the head", cellOfFlood(1, 13, 0), 1);
        check.same("12 against 14 of the head", cellOfFlood(1, 14, 0), IceLand.NONE);
        check.same("12 against 13 ahead of 11", cellOfFlood(10, 13, 0), 10);
        check.same("12 against 14 ahead of 11", cellOfFlood(10, 14, 0), IceLand.NONE);
    }

    private static int cellOfFlood(int cell, int before, int behind) {
        IceLand x = new IceLand();
        Lakes.addBetween(x, cell, before, behind, 6);
        Lakes.meltOf(x, 6);
        x.pass(1);
        return x.floods() == 0 ? IceLand.NONE : x.flood(0, 1);
    }

    private static void iceStays(Check check) {
        IceLand x = Lakes.between(19, 20, 6);
        x.pass(1);
        check.same("ice ahead", x.cellIs(4, 1), 19);
        check.same("ice of the lake", x.cellIs(5, 1), 30);
        check.same("ice behind", x.cellIs(6, 1), 20);
        check.same("water ahead", x.cellIs(4, 2), 0);
        check.same("water", x.cellIs(5, 2), 0);
        check.same("water behind", x.cellIs(6, 2), 0);
    }

    /** Cell 5 stands in the sea and had its turn in step 3, but what came from 6 breaks out at once. */
    private static void inTheSea(Check check) {
        IceLand x = new IceLand();
        x.sea(71);
        Lakes.addBetween(x, 5, 5, 13, 12);
        Lakes.meltOf(x, 12);
        x.pass(1);
        check.same("of 4 and 5 to the sea, of 6 as a flood", x.total(2), 36);
        check.same("floods", x.floods(), 1);
        check.same("cell", x.flood(0, 1), 5);
        check.same("units", x.flood(0, 2), 12);
    }
}
