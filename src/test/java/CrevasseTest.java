/** Crevasses, and those hidden under snow. */
public final class CrevasseTest {
    private static final String CREVASSE = "A CELL has a CREVASSE, if what was given to it and what it gave in step 2 "
        + "of the latest year differ by 5 or more, none ahead of the first year; it is hidden, if 3 units of SNOW or "
        + "more fell on it in step 1 of that year.";

    public static void main(String[] args) {
        Check.run(CrevasseTest.class);
    }

    /** Ice on the head, with so much snow in a year: of 32 units in all 5 go, of 29 to 31 there go 4. */
    private static IceLand heap(int ice, int snow) {
        IceLand x = new IceLand();
        x.ice(0, ice);
        x.climate(0, snow, 0);
        x.pass(1);
        return x;
    }

    @Said(under = "A year", value = CREVASSE)
    static void fiveUnitsMakeOne(Check check) {
        check.cells("5 given, and 5 taken", heap(32, 0), 5, 0, 1, 1, 0);
    }

    @Said(under = "A year", value = CREVASSE)
    static void fourUnitsDoNot(Check check) {
        check.cells("4 given, and 4 taken", heap(29, 0), 5, 0, 0, 0, 0);
    }

    @Said(under = "A year", value = CREVASSE)
    static void thereIsNoneAheadOfTheFirstYear(Check check) {
        IceLand x = new IceLand();
        x.land(0, 500);
        x.ice(0, 999);
        x.climate(0, 20, 0);
        check.cells("no crevasse", x, 5, 0, 0, 0, 0);
        check.cells("no hidden one", x, 6, 0, 0, 0, 0);
        check.same("though one would be", x.would(1, 0, 5), 1);
        check.cells("and asking makes none", x, 5, 0, 0, 0, 0);
    }

    @Said(under = "A year", value = CREVASSE)
    static void whatComesAndWhatGoesDiffer(Check check) {
        IceLand x = new IceLand();
        x.ice(0, 52);
        x.ice(1, 32);
        x.pass(1);
        // 20 times 52 by 200 and 32 times 32 by 200 are 5 each.
        check.same("ice of 1 is as before", x.cellIs(1, 1), 32);
        check.cells("5 come and 5 go", x, 5, 0, 1, 0, 1);
    }

    @Said(under = "A year", value = CREVASSE)
    static void whatGoesToBothSidesCountsTogether(Check check) {
        IceLand x = new IceLand();
        x.ice(5, 26);
        x.pass(1);
        check.cells("3 to either side", x, 1, 4, 3, 20, 3);
        check.cells("6 in all", x, 5, 4, 0, 1, 0);
    }

    @Said(under = "A year", value = CREVASSE)
    static void whatComesFromBothSidesCountsTogether(Check check) {
        IceLand x = new IceLand();
        x.ice(4, 26);
        x.ice(6, 26);
        x.pass(1);
        check.same("3 from either side", x.cellIs(5, 1), 6);
        check.same("6 in all", x.cellIs(5, 5), 1);
    }

    @Said(under = "A year", value = CREVASSE)
    static void whatMeltsOrCalvesDoesNotCount(Check check) {
        IceLand x = new IceLand();
        x.ice(3, 9);
        x.climate(300, 0, 9);
        x.pass(1);
        check.same("9 units melted", x.cellIs(3, 5), 0);
        IceLand y = new IceLand();
        y.sea(200);
        y.ice(11, 9);
        y.pass(1);
        check.same("9 units calved", y.cellIs(11, 5), 0);
        check.cells("9 units of snow", afterSnow(9), 5, 3, 0);
    }

    private static IceLand afterSnow(int snow) {
        IceLand x = new IceLand();
        x.climate(0, snow, 0);
        x.pass(1);
        return x;
    }

    @Said(under = "A year", value = CREVASSE)
    static void threeUnitsOfSnowHideIt(Check check) {
        IceLand x = heap(31, 3);
        check.cells("crevasses", x, 5, 0, 1, 1, 0);
        check.cells("hidden", x, 6, 0, 1, 1, 0);
    }

    @Said(under = "A year", value = CREVASSE)
    static void twoUnitsOfSnowDoNotHideIt(Check check) {
        IceLand x = heap(31, 2);
        check.cells("crevasses", x, 5, 0, 1, 1, 0);
        check.cells("not hidden", x, 6, 0, 0, 0, 0);
    }

    @Said(under = "A year", value = CREVASSE)
    static void snowWithoutACrevasseHidesNone(Check check) {
        check.cells("20 units on even land", afterSnow(20), 6, 0, 0, 0, 0);
    }

    @Said(under = "A year", value = CREVASSE)
    static void theClimateToldLaterHidesNone(Check check) {
        IceLand three = heap(31, 3);
        three.climate(0, 0, 0);
        check.cells("hidden still", three, 6, 0, 1, 1, 0);
        IceLand two = heap(31, 2);
        two.climate(0, 9, 0);
        check.cells("not hidden still", two, 6, 0, 0, 0, 0);
    }

    @Said(under = "A year", value = CREVASSE)
    static void snowThatDidNotFallOnItHidesNone(Check check) {
        // Upon a surface of 160 the warmth is 90 less 80, so that no snow falls; upon 220 it is 90 less 110.
        IceLand warm = new IceLand();
        warm.ice(0, 60);
        warm.land(1, 160);
        warm.ice(1, 60);
        warm.climate(90, 9, 0);
        warm.pass(1);
        check.cells("a warm head", warm, 5, 0, 1, 1, 1);
        check.cells("hidden where it was cold", warm, 6, 0, 0, 1, 0);
        // In the sea snow falls upon ice alone.
        IceLand wet = new IceLand();
        wet.land(0, 200);
        wet.ice(0, 32);
        wet.sea(150);
        wet.climate(0, 9, 0);
        wet.pass(1);
        check.cells("one in the sea", wet, 5, 0, 1, 1);
        check.cells("hidden on land alone", wet, 6, 0, 1, 0);
    }

    @Said(under = "A year", value = CREVASSE)
    static void itIsOfTheLatestYearAlone(Check check) {
        IceLand x = heap(32, 0);
        x.climate(0, 3, 0);
        x.pass(1);
        // 30 and 8 upon beds of 99: 22 times 30 by 200 is 3.
        check.cells("less flows in the second year", x, 5, 0, 0, 0, 0);
        check.cells("none is hidden", x, 6, 0, 0, 0, 0);
    }

    @Said(under = "A year", value = CREVASSE)
    static void itsSnowIsOfTheLatestYearAlone(Check check) {
        // 19 of 78 units go from 0 to 1 in the second year, and 3 from there.
        IceLand later = heap(100, 0);
        check.cells("bare in the first year", later, 6, 0, 0, 0, 0);
        later.climate(0, 3, 0);
        later.pass(1);
        check.cells("crevasses in the second", later, 5, 0, 1, 1, 0);
        check.cells("hidden in the second", later, 6, 0, 1, 1, 0);
        IceLand earlier = heap(100, 3);
        check.cells("hidden in the first year", earlier, 6, 0, 1, 1, 0);
        earlier.climate(0, 0, 0);
        earlier.pass(1);
        check.cells("crevasses still", earlier, 5, 0, 1, 1, 0);
        check.cells("bare in the second", earlier, 6, 0, 0, 0, 0);
        IceLand warmer = heap(100, 3);
        warmer.climate(300, 3, 0);
        warmer.pass(1);
        check.cells("crevasses in a warm second year", warmer, 5, 0, 1, 1, 0);
        check.cells("bare in a warm second year", warmer, 6, 0, 0, 0, 0);
    }
}
