/** Promise 9: layer. */
public final class Promise09Test {
    public static void main(String[] args) {
        Check.run(Promise09Test.class);
    }

    private static IceLand land() {
        IceLand x = new IceLand();
        x.ice(0, 2);
        x.ice(11, 1);
        x.climate(0, 3, 0);
        x.pass(1);
        x.climate(0, 0, 0);
        x.pass(1);
        x.ice(11, 5);
        return x;
    }

    @Said(under = "Promise 9", value = "Returns the units of a LAYER.")
    static void answersTheUnits(Check check) {
        IceLand x = land();
        check.same("layer(0, 0)", x.layer(0, 0), 2);
        check.same("layer(0, 1)", x.layer(0, 1), 3);
        check.same("layer(11, 0)", x.layer(11, 0), 1);
        check.same("layer(11, 1)", x.layer(11, 1), 3);
        check.same("layer(11, 2)", x.layer(11, 2), 5);
    }

    @Said(under = "Promise 9", value = "Returns the units of a LAYER.")
    static void anEmptyLayerHasNone(Check check) {
        IceLand x = land();
        check.same("a year without ice", x.layer(0, 2), 0);
        check.same("a cell without ice", x.layer(10, 0), 0);
        x.climate(300, 0, 9);
        x.pass(1);
        check.same("molten off", x.layer(11, 2) + x.layer(11, 1) + x.layer(11, 0), 0);
    }

    @Said(under = "Promise 9", value = "Returns the units of a LAYER.")
    static void answersAFullLayer(Check check) {
        IceLand x = Scene.FULL.make();
        check.same("the head", x.layer(0, 0), 9999);
        check.same("the end", x.layer(11, 0), 9999);
        check.same("more than may be told, by the flow", Scene.HEAPED.make().layer(5, 0), 14997);
    }

    @Said(under = "Promise 9", value = "- `year`: 0 to 60")
    static void takesTheYear0(Check check) {
        check.same("layer(0, 0)", land().layer(0, 0), 2);
        check.same("layer(11, 0)", land().layer(11, 0), 1);
    }

    @Said(under = "Promise 9", value = "- `year`: 0 to 60")
    static void takesTheYear60(Check check) {
        IceLand x = Scene.LAST.make();
        check.same("snow of the year 60", x.layer(0, 60), 4);
        check.same("of the end in the sea", x.layer(11, 60), 0);
        x.ice(11, 6);
        check.same("ice told in it", x.layer(11, 60), 6);
    }

    @Said(under = "Promise 9", value = "- `year`: 0 to 60")
    static void takesAYearToCome(Check check) {
        IceLand x = land();
        check.same("layer(0, 3)", x.layer(0, 3), 0);
        check.same("layer(0, 60)", x.layer(0, 60), 0);
        check.same("layer(11, 60)", x.layer(11, 60), 0);
    }

    @Said(under = "Promise 9", value = "Throws `IndexOutOfBoundsException` if there is no such CELL")
    static void refusesACellThatIsNot(Check check) {
        check.noSuch("layer(-1, 0)", x -> x.layer(-1, 0));
        check.noSuch("layer(12, 0)", x -> x.layer(12, 0));
        check.noSuch("layer(MIN, 60)", x -> x.layer(Integer.MIN_VALUE, 60));
        check.noSuch("layer(MAX, 60)", x -> x.layer(Integer.MAX_VALUE, 60));
    }

    @Said(under = "Promise 9", value = "Throws `IndexOutOfBoundsException` if there is no such CELL")
    static void refusesTheCellAheadOfTheYear(Check check) {
        check.noSuch("layer(12, 61)", x -> x.layer(12, 61));
        check.noSuch("layer(-1, -1)", x -> x.layer(-1, -1));
    }

    @Said(under = "Promise 9", value = "Throws `IllegalArgumentException` if year is out of range")
    static void refusesAYearOutOfRange(Check check) {
        check.outOfRange("layer(0, -1)", x -> x.layer(0, -1));
        check.outOfRange("layer(0, 61)", x -> x.layer(0, 61));
        check.outOfRange("layer(11, -1)", x -> x.layer(11, -1));
        check.outOfRange("layer(11, 61)", x -> x.layer(11, 61));
        check.outOfRange("layer(5, MIN)", x -> x.layer(5, Integer.MIN_VALUE));
        check.outOfRange("layer(5, MAX)", x -> x.layer(5, Integer.MAX_VALUE));
    }
}
