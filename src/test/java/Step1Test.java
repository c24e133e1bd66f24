/** Step 1 of a year: snow and melt. */
public final class Step1Test {
    public static void main(String[] args) {
        Check check = new Check("Step 1");
        snowFallsBelowZero(check);
        halfIsRoundedDown(check);
        halfIsRoundedDownBelowZeroToo(check);
        seaTakesSnow(check);
        meltIsRoundedDown(check);
        meltTakesLatestYears(check);
        check.end();
    }

    private static IceLand afterAYear(int warmth, int snow, int factor) {
        IceLand x = new IceLand();
        x.climate(warmth, snow, factor);
        x.pass(1);
        return x;
    }

    private static void snowFallsBelowZero(Check check) {
        IceLand x = afterAYear(49, 7, 9);
        check.same("a warmth of -1: snow", x.total(4), 84);
        check.same("in the layer of that year", x.layer(4, 1), 7);
        check.same("and no other", x.layer(4, 0), 0);
        check.same("ice", x.cellIs(4, 1), 7);
        check.same("a warmth of 0: none", afterAYear(50, 7, 9).total(4), 0);
        check.same("a warmth of 1: none", afterAYear(51, 7, 9).total(4), 0);
        IceLand y = new IceLand();
        y.ice(4, 3);
        y.climate(51, 7, 9);
        y.pass(1);
        check.same("a warmth of 0 does not melt", y.cellIs(4, 1), 3);
        check.same("nor does it snow then on that cell", y.layer(4, 1), 0);
    }

    private static void halfIsRoundedDown(Check check) {
        for (int warmth = 49; warmth <= 50; warmth++) {
            IceLand x = new IceLand();
            for (int cell = 0; cell < 12; cell++) {
                x.land(cell, 101);
            }
            x.climate(warmth, 5, 0);
            x.pass(1);
            check.same("half of 101 under " + warmth, x.total(4), warmth == 49 ? 60 : 0);
        }
    }

    /** All beds are -4 at last, with a unit of ice on each: a surface of -3, half of which is -2. */
    private static IceLand sunken() {
        IceLand x = new IceLand();
        for (int cell = 0; cell < 12; cell++) {
            x.land(cell, 0);
            x.ice(cell, 15);
        }
        x.pass(5);
        x.climate(300, 0, 9);
        x.pass(1);
        for (int cell = 0; cell < 12; cell++) {
            x.ice(cell, 1);
        }
        return x;
    }

    private static void halfIsRoundedDownBelowZeroToo(Check check) {
        IceLand x = sunken();
        check.same("surface", x.cellIs(6, 3), -3);
        x.climate(-2, 5, 9);
        x.pass(1);
        check.same("-2 less -2: no snow", x.total(4), 0);
        check.same("and no melt", x.total(2), 180);
        IceLand y = sunken();
        y.climate(-3, 5, 9);
        y.pass(1);
        check.same("-3 less -2: snow, in the sea too, where ice is", y.total(4), 60);
        IceLand z = sunken();
        z.climate(0, 5, 9);
        z.pass(1);
        check.same("0 less -2: 9 times 2, a tenth of that melts", z.total(2), 192);
    }

    private static void seaTakesSnow(Check check) {
        IceLand x = new IceLand();
        x.sea(101);
        x.land(2, 101);
        x.ice(5, 3);
        x.climate(0, 4, 0);
        x.pass(1);
        check.same("snow on 2 and 5 alone", x.total(4), 8);
        check.same("on land", x.layer(2, 1), 4);
    }

    private static void meltIsRoundedDown(Check check) {
        check.same("3 times 6, a tenth of that", moltenOf(3, 54, 6), 1);
        check.same("3 times 3", moltenOf(3, 54, 3), 0);
        check.same("4 times 5", moltenOf(3, 55, 5), 2);
        check.same("at most the ice", moltenOf(3, 90, 9), 3);
        check.same("without a factor", moltenOf(3, 300, 0), 0);
        check.same("without ice", afterAYear(300, 0, 9).total(1), 0);
    }

    /** How much melts of ice on cell 5, whose surface is 103 with 3 units. */
    private static int moltenOf(int ice, int warmth, int factor) {
        IceLand x = new IceLand();
        x.ice(5, ice);
        x.climate(warmth, 9, factor);
        x.pass(1);
        needAllTold(x);
        return x.total(1);
    }

    private static void needAllTold(IceLand x) {
        if (x.total(0) + x.total(1) != x.total(5) || x.total(4) != 0) {
            throw new IllegalStateException("ice and water are not what was told");
        }
    }

    private static void meltTakesLatestYears(Check check) {
        IceLand x = new IceLand();
        x.land(5, 90);
        x.ice(5, 4);
        x.pass(1);
        x.ice(5, 3);
        x.pass(1);
        x.ice(5, 2);
        // The bed sank by 2: a surface of 97, half of which is 48, less than 58 by 10.
        x.climate(58, 0, 4);
        check.same("surface", x.cellIs(5, 3), 97);
        x.pass(1);
        check.same("the latest is gone", x.layer(5, 2), 0);
        check.same("the one before it in part", x.layer(5, 1), 1);
        check.same("the earliest is whole", x.layer(5, 0), 4);
        check.same("ice", x.cellIs(5, 1), 5);
        check.same("water", x.cellIs(5, 2), 4);
    }
}
