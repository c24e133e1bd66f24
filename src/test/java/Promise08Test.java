/** Promise 8: cellIs; crevasses have a test of their own. */
public final class Promise08Test {
    private static final String WHAT = "- `what`: 0 its BED, 1 its ICE, 2 its WATER, 3 its SURFACE, 4 its MORAINE, "
        + "5 whether it has a CREVASSE, hidden or not (1 or 0), 6 whether it has one that is hidden, "
        + "7 whether it STANDS IN THE SEA, 8 its BASE, 9 its POTENTIAL";

    public static void main(String[] args) {
        Check.run(Promise08Test.class);
    }

    @Said(under = "Promise 8", value = {"Tells of a CELL.", WHAT})
    static void tellsEach(Check check) {
        IceLand x = new IceLand();
        x.land(4, 60);
        x.ice(4, 13);
        x.sea(60);
        // The warmth is 46 less half of 73: 10 times 2, a tenth of that melts and stays; the bed sinks into the sea.
        x.climate(46, 0, 2);
        x.pass(1);
        int[] due = {59, 11, 2, 70, 1, 0, 0, 1, 60, 689};
        int[] beside = {100, 0, 0, 100, 0, 0, 0, 0, 100, 1000};
        for (int what = 0; what <= 9; what++) {
            check.cells("a tongue", x, what, 3, beside[what], due[what], beside[what]);
        }
    }

    @Said(under = "Promise 8", value = WHAT)
    static void aCrevasseIs1HiddenOrNot(Check check) {
        IceLand x = new IceLand();
        // 24 units of ice upon a slope of 200: a fourth of them goes.
        x.land(5, 300);
        x.ice(5, 24);
        x.climate(-300, 0, 0);
        x.pass(1);
        check.cells("open", x, 5, 3, 0, 1, 1, 1, 0);
        check.cells("not hidden", x, 6, 3, 0, 0, 0, 0, 0);
        IceLand y = new IceLand();
        y.land(5, 300);
        y.ice(5, 21);
        y.climate(-300, 3, 0);
        y.pass(1);
        check.cells("under snow", y, 5, 3, 0, 1, 1, 1, 0);
        check.cells("hidden", y, 6, 3, 0, 1, 1, 1, 0);
    }

    @Said(under = "Promise 8", value = WHAT)
    static void tellsOfTheHeadAndOfTheEnd(Check check) {
        IceLand x = new IceLand();
        x.ice(0, 3);
        x.ice(11, 5);
        check.cells("the head", x, 1, 0, 3, 0);
        check.cells("the end", x, 1, 10, 0, 5);
        check.cells("potential of the head", x, 9, 0, 1027, 1000);
        check.cells("potential of the end", x, 9, 10, 1000, 1045);
    }

    @Said(under = "Promise 8", value = WHAT)
    static void tellsOfAFullCell(Check check) {
        IceLand x = Scene.FULL.make();
        check.cells("ice", x, 1, 11, 9999);
        check.cells("surface", x, 3, 11, 10099);
        check.cells("potential", x, 9, 11, 90991);
    }

    @Said(under = "Promise 8", value = "Throws `IndexOutOfBoundsException` if there is no such CELL")
    static void refusesACellThatIsNot(Check check) {
        check.noSuch("cellIs(-1, 0)", x -> x.cellIs(-1, 0));
        check.noSuch("cellIs(12, 0)", x -> x.cellIs(12, 0));
        check.noSuch("cellIs(MIN, 9)", x -> x.cellIs(Integer.MIN_VALUE, 9));
        check.noSuch("cellIs(MAX, 9)", x -> x.cellIs(Integer.MAX_VALUE, 9));
    }

    @Said(under = "Promise 8", value = "Throws `IndexOutOfBoundsException` if there is no such CELL")
    static void refusesTheCellAheadOfWhat(Check check) {
        check.noSuch("cellIs(12, 10)", x -> x.cellIs(12, 10));
        check.noSuch("cellIs(-1, -1)", x -> x.cellIs(-1, -1));
    }

    @Said(under = "Promise 8", value = "Throws `IllegalArgumentException` if what is out of range")
    static void refusesAWhatOutOfRange(Check check) {
        check.outOfRange("cellIs(0, -1)", x -> x.cellIs(0, -1));
        check.outOfRange("cellIs(11, 10)", x -> x.cellIs(11, 10));
        check.outOfRange("cellIs(5, MIN)", x -> x.cellIs(5, Integer.MIN_VALUE));
        check.outOfRange("cellIs(5, MAX)", x -> x.cellIs(5, Integer.MAX_VALUE));
    }
}
