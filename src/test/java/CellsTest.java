/** What the document says of the cells. */
public final class CellsTest {
    private static final String NEIGHBOURS = "There are the CELLS 0, the head, to 11; "
        + "two whose numbers differ by 1 are NEIGHBOURS.";
    private static final String AT_FIRST = "A CELL has a BED, a height, 100 at first, ICE and WATER, in units, "
        + "none at first.";
    private static final String SURFACE = "Its SURFACE is its BED and its ICE, together.";
    private static final String SEA = "The sea has a level, 0 at first; a CELL STANDS IN THE SEA, "
        + "if its BED is below that level.";
    private static final String BASE = "Its BASE is the BED that was told last, 100 at first.";
    private static final String LAYERS = "The ICE of a CELL is in LAYERS, one for each year in which it fell, "
        + "or was told; those of later years lie above those of earlier ones.";

    public static void main(String[] args) {
        Check.run(CellsTest.class);
    }

    @Said(under = "Cells", value = NEIGHBOURS)
    static void thereAreTheCells0To11(Check check) {
        IceLand x = new IceLand();
        for (int cell = 0; cell <= 11; cell++) {
            check.same("ice(" + cell + ", 1)", x.ice(cell, 1), 1);
        }
        check.same("all of them", x.total(0), 12);
        check.noSuch(Scene.NEW, "cellIs(-1, 1)", y -> y.cellIs(-1, 1));
        check.noSuch(Scene.NEW, "cellIs(12, 1)", y -> y.cellIs(12, 1));
    }

    @Said(under = "Cells", value = NEIGHBOURS)
    static void iceFlowsToNeighboursAlone(Check check) {
        IceLand x = new IceLand();
        x.ice(5, 100);
        x.pass(1);
        check.cells("beside cell 5", x, 1, 3, 0, 25, 50, 25, 0);
    }

    @Said(under = "Cells", value = NEIGHBOURS)
    static void iceOfTheHeadDoesNotFlowToTheEnd(Check check) {
        IceLand x = new IceLand();
        x.land(1, 500);
        x.land(11, 0);
        x.ice(0, 100);
        x.pass(1);
        check.cells("the head", x, 1, 0, 100, 0);
        check.cells("the end", x, 1, 10, 0, 0);
    }

    @Said(under = "Cells", value = NEIGHBOURS)
    static void iceOfTheEndDoesNotFlowToTheHead(Check check) {
        IceLand x = new IceLand();
        x.land(10, 500);
        x.land(0, 0);
        x.ice(11, 100);
        x.pass(1);
        check.cells("the head", x, 1, 0, 0, 0);
        check.cells("the end", x, 1, 10, 0, 100);
    }

    @Said(under = "Cells", value = NEIGHBOURS)
    static void waterOfTheHeadDoesNotRunToTheEnd(Check check) {
        IceLand x = new IceLand();
        x.land(1, 101);
        x.land(11, 0);
        x.ice(0, 3);
        x.climate(300, 0, 9);
        x.pass(1);
        check.same("the head", x.cellIs(0, 2), 3);
        check.same("the sea", x.total(2), 0);
    }

    /** The water in the head is 12 units; cell 1 has no ice, and the end has too little to hold it. */
    @Said(under = "Cells", value = NEIGHBOURS)
    static void iceOfTheEndDoesNotHoldWaterOfTheHead(Check check) {
        IceLand x = new IceLand();
        x.land(1, 300);
        x.ice(0, 12);
        x.climate(300, 0, 9);
        x.pass(1);
        check.same("water", x.cellIs(0, 2), 12);
        x.climate(0, 0, 0);
        x.ice(11, 2);
        x.pass(1);
        check.same("water later", x.cellIs(0, 2), 12);
        check.same("floods", x.floods(), 0);
    }

    @Said(under = "Cells", value = AT_FIRST)
    static void aCellIs100HighAndBareAtFirst(Check check) {
        IceLand x = new IceLand();
        for (int cell = 0; cell <= 11; cell++) {
            check.same("bed of " + cell, x.cellIs(cell, 0), 100);
            check.same("ice of " + cell, x.cellIs(cell, 1), 0);
            check.same("water of " + cell, x.cellIs(cell, 2), 0);
        }
    }

    @Said(under = "Cells", value = SURFACE)
    static void theSurfaceIsBedAndIce(Check check) {
        IceLand x = new IceLand();
        x.land(3, 40);
        check.same("bare", x.cellIs(3, 3), 40);
        x.ice(3, 7);
        check.same("with ice", x.cellIs(3, 3), 47);
        IceLand y = Scene.PUDDLE.make();
        check.same("water does not count", y.cellIs(4, 3), 90);
    }

    @Said(under = "Cells", value = SURFACE)
    static void theSurfaceMayBe0AndLess(Check check) {
        IceLand x = new IceLand();
        x.land(11, 0);
        check.same("of a bed of 0", x.cellIs(11, 3), 0);
        x.ice(11, 3);
        x.pass(1);
        check.same("of a bed of -1 with 3 units", x.cellIs(11, 3), 2);
        x.climate(300, 0, 9);
        x.pass(1);
        check.same("ice molten", x.cellIs(11, 1), 0);
        check.same("of a bed that rose", x.cellIs(11, 3), 0);
        x.climate(0, 0, 0);
        x.ice(11, 9);
        x.pass(3);
        x.climate(300, 0, 9);
        x.pass(1);
        check.same("of a bed of -2 without ice", x.cellIs(11, 3), -2);
    }

    @Said(under = "Cells", value = SEA)
    static void theLevelIs0AtFirst(Check check) {
        IceLand x = new IceLand();
        check.same("sea(0)", x.sea(0), 0);
        x.land(11, 0);
        check.same("a bed of 0", x.cellIs(11, 7), 0);
        x.ice(11, 3);
        x.pass(1);
        check.same("a bed of -1", x.cellIs(11, 7), 1);
    }

    @Said(under = "Cells", value = SEA)
    static void aBedAtTheLevelDoesNotStandInTheSea(Check check) {
        IceLand x = new IceLand();
        x.land(2, 101);
        x.land(3, 99);
        x.sea(100);
        check.cells("beds of 101, 99 and 100", x, 7, 2, 0, 1, 0);
    }

    @Said(under = "Cells", value = SEA)
    static void theSurfaceDoesNotCount(Check check) {
        IceLand x = new IceLand();
        x.sea(101);
        x.ice(3, 50);
        check.same("a bed of 100 below ice", x.cellIs(3, 7), 1);
    }

    @Said(under = "Cells", value = BASE)
    static void theBaseIs100AtFirst(Check check) {
        IceLand x = new IceLand();
        check.same("at first", x.cellIs(0, 8), 100);
        x.ice(0, 30);
        x.pass(2);
        check.same("below ice", x.cellIs(0, 8), 100);
        check.same("the bed sank", x.cellIs(0, 0), 98);
    }

    @Said(under = "Cells", value = BASE)
    static void theBaseIsTheBedToldLast(Check check) {
        IceLand x = new IceLand();
        x.land(0, 30);
        x.land(0, 60);
        x.ice(0, 9);
        x.pass(2);
        check.same("base", x.cellIs(0, 8), 60);
        check.notNow(x, "land(0, 7) on ice", y -> y.land(0, 7));
        check.same("a refused one is not told", x.cellIs(0, 8), 60);
    }

    @Said(under = "Cells", value = LAYERS)
    static void thereIsALayerForEachYear(Check check) {
        IceLand x = new IceLand();
        x.ice(3, 2);
        x.climate(0, 1, 0);
        x.pass(2);
        x.ice(3, 4);
        check.same("told in the year 0", x.layer(3, 0), 2);
        check.same("fallen in the year 1", x.layer(3, 1), 1);
        check.same("fallen and told in the year 2", x.layer(3, 2), 5);
        check.same("all", x.cellIs(3, 1), 8);
    }

    @Said(under = "Cells", value = LAYERS)
    static void laterYearsLieAbove(Check check) {
        IceLand x = new IceLand();
        x.ice(3, 1);
        x.climate(0, 1, 0);
        x.pass(2);
        int[] due = {2, 1, 0, IceLand.NONE};
        for (int depth = 0; depth < 4; depth++) {
            check.same("yearAt(3, " + depth + ")", x.yearAt(3, depth), due[depth]);
        }
    }

    /** Ice of an earlier year that flows upon later layers lies below them. */
    @Said(under = "Cells", value = LAYERS)
    static void whatComesLaterLiesByItsYear(Check check) {
        IceLand x = new IceLand();
        x.ice(0, 40);
        x.pass(1);
        x.ice(1, 1);
        int old = x.layer(1, 0);
        x.pass(1);
        check.same("more of the year 0 came", x.layer(1, 0) > old, true);
        check.same("the year 1 lies above it", x.yearAt(1, 0), 1);
        check.same("the year 0 lies below it", x.yearAt(1, 1), 0);
    }
}
