/** Step 3 of a year: water runs. */
public final class Step3Test {
    public static void main(String[] args) {
        Check check = new Check("Step 3");
        runsToTheSeaInAYear(check);
        runsUpTheLineByACellAYear(check);
        staysInAHollow(check);
        oftenTheGreaterNumber(check);
        iceIsPressure(check);
        leastOfTwo(check);
        intoTheSea(check);
        lastCell(check);
        check.end();
    }

    /** Three units of ice on a cell melt in one year, whatever its bed is up to 200. */
    private static void melt(IceLand x, int cell) {
        x.ice(cell, 3);
        x.climate(300, 0, 9);
        x.pass(1);
        x.climate(0, 0, 0);
    }

    private static void runsToTheSeaInAYear(Check check) {
        IceLand x = new IceLand();
        for (int cell = 0; cell < 12; cell++) {
            x.land(cell, 200 - cell);
        }
        melt(x, 0);
        check.same("to the sea", x.total(2), 3);
        check.same("none left", x.total(1), 0);
    }

    private static void runsUpTheLineByACellAYear(Check check) {
        IceLand x = new IceLand();
        for (int cell = 0; cell < 12; cell++) {
            x.land(cell, 100 + cell);
        }
        melt(x, 3);
        waters(check, "year 1", x, 0, 0, 0, 3, 0);
        x.pass(1);
        waters(check, "year 2", x, 0, 0, 3, 0, 0);
        x.pass(1);
        waters(check, "year 3", x, 0, 3, 0, 0, 0);
        x.pass(1);
        waters(check, "year 4", x, 0, 3, 0, 0, 0);
        check.same("none to the sea", x.total(2), 0);
    }

    private static void staysInAHollow(Check check) {
        IceLand x = new IceLand();
        x.land(6, 50);
        melt(x, 6);
        waters(check, "hollow", x, 5, 0, 3, 0);
        IceLand y = new IceLand();
        melt(y, 0);
        waters(check, "the head on even land had ice as it ran", y, 0, 3, 0, 0);
    }

    private static void oftenTheGreaterNumber(Check check) {
        IceLand x = new IceLand();
        x.land(4, 60);
        x.land(5, 70);
        x.land(6, 60);
        melt(x, 5);
        waters(check, "two alike", x, 4, 0, 0, 3, 0);
        IceLand y = new IceLand();
        y.land(5, 100);
        melt(y, 5);
        waters(check, "alike to its own", y, 4, 0, 3, 0);
    }

    private static void iceIsPressure(Check check) {
        check.same("3 units of ice upon 98 hold water of 100", leftAt100(98), 3);
        check.same("3 units of ice upon 97 do not", leftAt100(97), 0);
        IceLand x = new IceLand();
        x.ice(5, 3);
        // A warmth of 4 over half of 103 melts 2 of 3: the unit left makes it 9 more than its neighbours.
        x.climate(55, 0, 5);
        x.pass(1);
        waters(check, "pressed out", x, 4, 0, 0, 2, 0);
    }

    private static int leftAt100(int bedBehind) {
        IceLand x = new IceLand();
        melt(x, 4);
        x.land(5, bedBehind);
        x.ice(5, 3);
        x.pass(1);
        return x.cellIs(4, 2);
    }

    private static void leastOfTwo(Check check) {
        IceLand x = new IceLand();
        x.land(4, 60);
        x.land(5, 90);
        x.land(6, 61);
        melt(x, 5);
        waters(check, "the lesser is ahead", x, 4, 3, 0, 0);
        IceLand y = new IceLand();
        y.land(4, 61);
        y.land(5, 90);
        y.land(6, 60);
        melt(y, 5);
        waters(check, "the lesser is behind", y, 4, 0, 0, 3);
        IceLand z = new IceLand();
        z.land(4, 95);
        z.land(5, 90);
        melt(z, 5);
        waters(check, "none is lesser than its own", z, 4, 0, 3, 0);
    }

    private static void intoTheSea(Check check) {
        IceLand x = new IceLand();
        x.sea(50);
        x.land(5, 49);
        melt(x, 5);
        check.same("one in the sea gives its own", x.total(2), 3);
        IceLand y = new IceLand();
        y.sea(50);
        y.land(6, 49);
        melt(y, 5);
        check.same("what came to one ahead of its turn goes on", y.total(2), 3);
        IceLand z = new IceLand();
        z.sea(50);
        z.land(4, 49);
        melt(z, 5);
        waters(check, "what came to one behind its turn stays", z, 4, 3, 0);
        check.same("none to the sea yet", z.total(2), 0);
        z.pass(1);
        waters(check, "it goes in the next year", z, 4, 0, 0);
        check.same("to the sea then", z.total(2), 3);
        IceLand w = new IceLand();
        w.sea(49);
        w.land(5, 49);
        melt(w, 5);
        check.same("a bed at the level keeps it", w.total(1), 3);
    }

    private static void lastCell(Check check) {
        IceLand x = new IceLand();
        x.land(11, 40);
        melt(x, 11);
        check.same("cell 11 on dry land", x.total(2), 3);
        IceLand y = new IceLand();
        y.land(10, 40);
        melt(y, 11);
        check.same("cell 11 beside a hollow", y.total(2), 3);
        IceLand z = new IceLand();
        z.land(11, 40);
        melt(z, 10);
        check.same("through cell 11", z.total(2), 3);
    }

    private static void waters(Check check, String when, IceLand x, int first, int... due) {
        for (int i = 0; i < due.length; i++) {
            check.same(when + ": water of " + (first + i), x.cellIs(first + i, 2), due[i]);
        }
    }
}
