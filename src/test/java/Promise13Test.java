/** Promise 13: flood. */
public final class Promise13Test {
    private static final String NO_FLOOD = "Throws `IndexOutOfBoundsException` if there was no such FLOOD";
    private static final String OUT_OF_RANGE = "Throws `IllegalArgumentException` if what is out of range";

    public static void main(String[] args) {
        Check.run(Promise13Test.class);
    }

    /** Floods of the cells 2 and 9 in the year 2; in cell 6 there are 12 units behind a tongue of 19, too few. */
    private static IceLand land() {
        IceLand x = new IceLand();
        x.pass(1);
        Lakes.addBetween(x, 2, 19, 20, 6);
        Lakes.addBetween(x, 6, 19, 0, 6);
        Lakes.addBetween(x, 9, 12, 0, 6);
        Lakes.meltOf(x, 6);
        x.pass(1);
        return x;
    }

    @Said(under = "Promise 13", value = "Tells of a FLOOD.")
    static void tellsOfTheFirstAndOfTheLast(Check check) {
        IceLand x = land();
        check.same("floods()", x.floods(), 2);
        check.same("units of the first", x.flood(0, 2), 18);
        check.same("units of the last", x.flood(1, 2), 12);
    }

    @Said(under = "Promise 13", value = "- `what`: 0 its year, 1 its CELL, 2 its units")
    static void tellsTheYearTheCellAndTheUnits(Check check) {
        IceLand x = land();
        int[][] due = {{2, 2, 18}, {2, 9, 12}};
        for (int flood = 0; flood < 2; flood++) {
            for (int what = 0; what <= 2; what++) {
                check.same("flood(" + flood + ", " + what + ")", x.flood(flood, what), due[flood][what]);
            }
        }
        x.climate(0, 0, 0);
        x.pass(20);
        check.same("the year stays", x.flood(0, 0), 2);
        check.same("the units stay", x.flood(0, 2), 18);
    }

    @Said(under = "Promise 13", value = NO_FLOOD)
    static void refusesWhereThereWasNone(Check check) {
        check.noSuch(Scene.NEW, "flood(0, 0)", x -> x.flood(0, 0));
        check.noSuch(Scene.TOLD, "flood(0, 2)", x -> x.flood(0, 2));
        check.noSuch(Scene.FULL, "flood(0, 1)", x -> x.flood(0, 1));
    }

    @Said(under = "Promise 13", value = NO_FLOOD)
    static void refusesTheOneBehindTheLast(Check check) {
        check.same("floods of the year 1 to 4", Scene.LIVELY.make().floods(), 1);
        check.noSuch("flood(floods(), 0)", x -> x.flood(x.floods(), 0));
    }

    @Said(under = "Promise 13", value = NO_FLOOD)
    static void refusesNumbersFarOff(Check check) {
        check.noSuch("flood(-1, 0)", x -> x.flood(-1, 0));
        check.noSuch("flood(720, 0)", x -> x.flood(720, 0));
        check.noSuch("flood(MIN, 0)", x -> x.flood(Integer.MIN_VALUE, 0));
        check.noSuch("flood(MAX, 0)", x -> x.flood(Integer.MAX_VALUE, 0));
    }

    @Said(under = "Promise 13", value = NO_FLOOD)
    static void refusesTheFloodAheadOfWhat(Check check) {
        check.noSuch("flood(-1, -1)", x -> x.flood(-1, -1));
        check.noSuch("flood(floods(), 3)", x -> x.flood(x.floods(), 3));
    }

    @Said(under = "Promise 13", value = OUT_OF_RANGE)
    static void refusesAWhatOutOfRange(Check check) {
        for (Scene scene : new Scene[] {Scene.LIVELY, Scene.LATE, Scene.LAST}) {
            check.outOfRange(scene, "flood(0, -1)", x -> x.flood(0, -1));
            check.outOfRange(scene, "flood(0, 3)", x -> x.flood(0, 3));
            check.outOfRange(scene, "flood(last, 3)", x -> x.flood(x.floods() - 1, 3));
            check.outOfRange(scene, "flood(0, MIN)", x -> x.flood(0, Integer.MIN_VALUE));
            check.outOfRange(scene, "flood(0, MAX)", x -> x.flood(0, Integer.MAX_VALUE));
        }
    }
}
