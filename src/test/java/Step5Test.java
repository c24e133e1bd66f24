/** Step 5 of a year: calving. */
public final class Step5Test {
    public static void main(String[] args) {
        Check check = new Check("Step 5");
        check.same("999 against 1000: floats", bergsAtEnd(100, 111), 111);
        check.same("1008 against 1000: grounded", bergsAtEnd(100, 112), 0);
        check.same("900 against 900: grounded", bergsAtEnd(110, 100), 0);
        goesInland(check);
        stopsAtLand(check);
        stopsAtGrounded(check);
        behindTheFlow(check);
        check.end();
    }

    /** The bergs of cell 11 in a sea of 200, beside dry land of the same surface. */
    private static int bergsAtEnd(int bed, int ice) {
        IceLand x = new IceLand();
        x.sea(200);
        x.land(11, bed);
        x.ice(11, ice);
        x.land(10, bed + ice);
        x.pass(1);
        if (x.total(0) + x.total(3) != ice || x.layer(11, 0) != x.total(0) || x.cellIs(11, 1) != x.total(0)) {
            throw new IllegalStateException("ice and bergs are not what was told");
        }
        return x.total(3);
    }

    private static void goesInland(Check check) {
        IceLand x = new IceLand();
        x.sea(200);
        x.ice(10, 3);
        x.ice(0, 2);
        x.pass(1);
        check.same("over cells without ice, up to the head", x.total(3), 5);
        check.same("no ice left", x.total(0), 0);
        check.same("no front", x.front(1), IceLand.NONE);
    }

    private static void stopsAtLand(Check check) {
        IceLand x = new IceLand();
        x.sea(200);
        x.land(11, 200);
        x.ice(10, 3);
        x.pass(1);
        check.same("behind dry land nothing calves", x.total(3), 0);
        IceLand y = new IceLand();
        y.sea(200);
        y.land(5, 200);
        y.ice(6, 3);
        y.ice(4, 2);
        y.pass(1);
        check.same("down to dry land alone", y.total(3), 3);
        IceLand z = new IceLand();
        z.sea(200);
        z.land(11, 199);
        z.ice(11, 1);
        z.pass(1);
        check.same("9 against 10", z.total(3), 1);
        IceLand w = new IceLand();
        w.sea(200);
        w.land(11, 199);
        w.ice(11, 2);
        w.ice(9, 2);
        w.pass(1);
        check.same("18 against 10", w.total(3), 0);
    }

    private static void stopsAtGrounded(Check check) {
        check.same("a grounded tongue keeps those inland", bergs(91, 121, 100, 112), 0);
        check.same("a floating one goes ahead of it", bergs(100, 112, 91, 121), 121);
        check.same("two floating ones", bergs(91, 121, 91, 121), 242);
    }

    /** The bergs of cells 10 and 11 whose surfaces are 212, in a sea of 200. */
    private static int bergs(int bed10, int ice10, int bed11, int ice11) {
        IceLand x = new IceLand();
        x.sea(200);
        x.land(9, 212);
        x.land(10, bed10);
        x.ice(10, ice10);
        x.land(11, bed11);
        x.ice(11, ice11);
        x.pass(1);
        return x.total(3);
    }

    /** Snow and flow of this year calve too. */
    private static void behindTheFlow(Check check) {
        IceLand x = new IceLand();
        x.sea(100);
        x.land(11, 99);
        x.land(10, 100);
        x.ice(10, 15);
        x.pass(1);
        // 15 times 15 by 200 to cell 9, 16 times 15 by 200 to cell 11, where 9 is less than 10.
        check.same("what came in this year", x.total(3), 1);
        check.same("ice of 10", x.cellIs(10, 1), 13);
    }
}
