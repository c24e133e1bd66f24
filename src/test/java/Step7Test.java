/** Step 7 of a year: the front and its moraine. */
public final class Step7Test {
    private static final String FRONT = "The FRONT of the year is the greatest CELL with ICE; NONE, if none has any.";
    private static final String MORAINE = "The MORAINE of the FRONT, 0 at first, is 1 more.";

    public static void main(String[] args) {
        Check.run(Step7Test.class);
    }

    private static int[] moraines(int of0, int of2, int of5, int of11) {
        return new int[] {of0, 0, of2, 0, 0, of5, 0, 0, 0, 0, 0, of11};
    }

    @Said(under = "A year", value = FRONT)
    static void isTheGreatestCellWithIce(Check check) {
        IceLand x = new IceLand();
        x.ice(5, 2);
        x.ice(2, 9);
        x.pass(1);
        check.same("of 2 and 5", x.front(1), 5);
    }

    @Said(under = "A year", value = FRONT)
    static void isTheEndWithAUnit(Check check) {
        IceLand x = new IceLand();
        x.ice(0, 3);
        x.ice(11, 1);
        x.pass(1);
        check.same("the end", x.front(1), 11);
    }

    @Said(under = "A year", value = FRONT)
    static void isTheHeadIfItAloneHasIce(Check check) {
        IceLand x = new IceLand();
        x.ice(0, 1);
        x.pass(2);
        check.same("the head", x.front(1), 0);
        check.cells("moraine of the head", x, 4, 0, 2, 0);
    }

    @Said(under = "A year", value = FRONT)
    static void isNoneIfNoneHasIce(Check check) {
        IceLand x = new IceLand();
        x.pass(1);
        check.same("bare land", x.front(1), IceLand.NONE);
        x.ice(4, 3);
        x.climate(300, 0, 9);
        x.pass(1);
        check.same("ice that melted in that year", x.front(2), IceLand.NONE);
        check.cells("no moraine", x, 4, 0, moraines(0, 0, 0, 0));
    }

    @Said(under = "A year", value = MORAINE)
    static void moraineIs0AtFirst(Check check) {
        IceLand x = new IceLand();
        x.ice(2, 1);
        x.ice(5, 2);
        check.cells("ahead of a year", x, 4, 0, moraines(0, 0, 0, 0));
    }

    @Said(under = "A year", value = MORAINE)
    static void moraineIs1MoreInEachYear(Check check) {
        IceLand x = new IceLand();
        x.ice(2, 1);
        x.ice(5, 2);
        x.pass(1);
        check.cells("year 1", x, 4, 0, moraines(0, 0, 1, 0));
        x.pass(2);
        check.cells("year 3", x, 4, 0, moraines(0, 0, 3, 0));
    }

    @Said(under = "A year", value = MORAINE)
    static void moraineStaysWhereTheFrontStood(Check check) {
        IceLand x = new IceLand();
        x.ice(5, 2);
        x.pass(3);
        x.ice(11, 1);
        check.cells("ice alone makes none", x, 4, 0, moraines(0, 0, 3, 0));
        x.pass(1);
        check.cells("year 4", x, 4, 0, moraines(0, 0, 3, 1));
        x.climate(300, 0, 9);
        x.pass(2);
        check.cells("without ice", x, 4, 0, moraines(0, 0, 3, 1));
        x.climate(0, 0, 0);
        x.ice(2, 1);
        x.pass(1);
        check.cells("year 7", x, 4, 0, moraines(0, 1, 3, 1));
    }

    @Said(under = "A year", value = MORAINE)
    static void moraineGrowsIn60Years(Check check) {
        IceLand x = new IceLand();
        x.ice(11, 1);
        x.pass(20);
        x.pass(20);
        x.pass(20);
        check.cells("the end", x, 4, 0, moraines(0, 0, 0, 60));
    }
}
