/** Step 2 of a year: flow. */
public final class Step2Test {
    public static void main(String[] args) {
        Check check = new Check("Step 2");
        goesByTheDifference(check);
        roundsDown(check);
        slidesOnWater(check);
        atMostAFourth(check);
        alikeGivesNothing(check);
        earliestYearsFirst(check);
        headFirst(check);
        allIsFoundFirst(check);
        check.end();
    }

    private static void goesByTheDifference(Check check) {
        IceLand x = new IceLand();
        x.ice(5, 24);
        x.pass(1);
        // 24 times 24 by 200 is 2 and some more, to either side.
        ices(check, "a heap", x, 4, 2, 20, 2);
        IceLand y = new IceLand();
        y.ice(0, 28);
        y.ice(11, 29);
        y.pass(1);
        ices(check, "the head", y, 0, 25, 3, 0);
        ices(check, "the end", y, 9, 0, 4, 25);
        IceLand z = new IceLand();
        z.land(5, 150);
        z.ice(4, 20);
        z.pass(1);
        ices(check, "bare land gives nothing", z, 3, 2, 18, 0);
        IceLand w = new IceLand();
        w.land(5, 110);
        w.ice(5, 19);
        w.ice(6, 10);
        w.pass(1);
        // To 4: 29 times 19 by 200; to 6: 19 times 19 by 200; 6 gives none to 7, as 10 times 10 by 200 is none.
        ices(check, "down a slope", w, 4, 2, 16, 11);
    }

    /** A cell whose surface is greater by 1 than those beside it: 1 times its ice, by 200. */
    private static IceLand greaterByOne(int ice) {
        IceLand x = new IceLand();
        for (int cell = 0; cell < 12; cell++) {
            x.land(cell, 300);
        }
        x.land(5, 301 - ice);
        x.ice(5, ice);
        for (int cell = 4; cell <= 6; cell += 2) {
            x.land(cell, 297);
            x.ice(cell, 3);
        }
        x.pass(1);
        return x;
    }

    private static void roundsDown(Check check) {
        ices(check, "199 by 200", greaterByOne(199), 4, 3, 199, 3);
        ices(check, "200 by 200", greaterByOne(200), 4, 4, 198, 4);
    }

    private static void slidesOnWater(Check check) {
        // 10 warmer than half of the surface: as many units melt as the factor is, 24 are left.
        check.same("3 units of water", ofTheHead(27, 73, 3), 22);
        check.same("4 units of water", ofTheHead(28, 74, 4), 20);
        check.same("5 units of water", ofTheHead(29, 74, 5), 20);
        IceLand x = new IceLand();
        x.land(0, 80);
        x.ice(0, 23);
        x.climate(61, 0, 4);
        x.pass(1);
        check.same("water", x.cellIs(0, 2), 4);
        x.climate(0, 0, 0);
        x.ice(1, 27);
        x.pass(1);
        // The water of 0 is not the giver's: 1 gives 29 times 27 by 200 to 0, and 27 times 27 by 200 to 2, once each.
        check.same("water is still there", x.cellIs(0, 2), 4);
        ices(check, "water of the taker", x, 0, 19 + 3, 27 - 3 - 3, 3);
    }

    private static int ofTheHead(int ice, int warmth, int factor) {
        IceLand x = new IceLand();
        x.ice(0, ice);
        x.climate(warmth, 0, factor);
        x.pass(1);
        return x.cellIs(0, 1);
    }

    private static void atMostAFourth(Check check) {
        IceLand x = new IceLand();
        x.land(0, 500);
        x.ice(0, 23);
        x.pass(1);
        ices(check, "a fourth of 23", x, 0, 18, 5, 0);
        IceLand y = new IceLand();
        y.land(5, 500);
        y.ice(5, 40);
        // 10 warmer than half of 540: 4 melt, so that 36 are left.
        y.climate(280, 0, 4);
        y.pass(1);
        ices(check, "a fourth to either side, on water too", y, 4, 9, 18, 9);
        IceLand z = new IceLand();
        z.land(0, 500);
        z.ice(0, 3);
        z.pass(1);
        ices(check, "3 units stay", z, 0, 3, 0, 0);
        IceLand w = new IceLand();
        for (int i = 0; i < 11; i++) {
            w.ice(6, 909);
        }
        w.pass(1);
        ices(check, "a huge heap", w, 5, 2499, 9999 - 2 * 2499, 2499);
    }

    private static void alikeGivesNothing(Check check) {
        IceLand x = new IceLand();
        x.land(4, 60);
        x.ice(4, 140);
        x.land(5, 0);
        x.ice(5, 200);
        x.land(6, 200);
        x.land(3, 200);
        x.pass(1);
        ices(check, "alike", x, 3, 0, 140, 200);
    }

    private static void earliestYearsFirst(Check check) {
        IceLand x = new IceLand();
        x.ice(0, 3);
        x.pass(1);
        x.ice(0, 37);
        x.ice(1, 10);
        x.pass(1);
        // A surface of 99 and 40; 29 times 40 by 200 is 5: the 3 of the year 0, and 2 of the year 1.
        check.same("year 0 of the giver", x.layer(0, 0), 0);
        check.same("year 1 of the giver", x.layer(0, 1), 35);
        check.same("year 0 of the taker", x.layer(1, 0), 3);
        check.same("year 1 of the taker", x.layer(1, 1), 12);
    }

    /** What the neighbours 0 and 1 give goes ahead of what 1 and 2 give. */
    private static void headFirst(Check check) {
        IceLand x = new IceLand();
        x.ice(0, 3);
        x.pass(1);
        x.ice(0, 37);
        x.ice(1, 20);
        x.pass(1);
        check.same("3 of the year 0 came to 1, 2 of them went on", x.layer(1, 0), 1);
        check.same("of its own it keeps all", x.layer(1, 1), 20);
        check.same("what came to 2", x.layer(2, 0), 2);
        IceLand y = new IceLand();
        y.land(3, 300);
        y.ice(2, 3);
        y.pass(1);
        y.ice(2, 37);
        y.ice(1, 20);
        y.pass(1);
        check.same("toward the head 1 gives of its own", y.layer(0, 1), 2);
        check.same("and nothing of the year 0", y.layer(0, 0), 0);
        check.same("3 of the year 0 come to it behind that", y.layer(1, 0), 3);
        check.same("its own", y.layer(1, 1), 18);
    }

    /** What comes in this step does not count for what is given in it. */
    private static void allIsFoundFirst(Check check) {
        IceLand x = new IceLand();
        x.land(0, 500);
        x.ice(0, 400);
        x.ice(1, 12);
        x.pass(1);
        // Of its own 12 the cell 1 gives 12 times 12 by 200, which is none, though 100 come to it.
        ices(check, "a fall", x, 0, 300, 112, 0);
    }

    private static void ices(Check check, String when, IceLand x, int first, int... due) {
        for (int i = 0; i < due.length; i++) {
            check.same(when + ": ice of " + (first + i), x.cellIs(first + i, 1), due[i]);
        }
    }
}
