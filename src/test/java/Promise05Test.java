/** Promise 5: ice. */
public final class Promise05Test {
    public static void main(String[] args) {
        Check.run(Promise05Test.class);
    }

    @Said(under = "Promise 5", value = "Tells ICE that a CELL has more, in its LAYER of the year of now.")
    static void isInTheLayerOfNow(Check check) {
        IceLand x = new IceLand();
        x.ice(3, 1);
        x.ice(3, 2);
        check.same("layer of the year 0", x.layer(3, 0), 3);
        x.pass(1);
        x.ice(3, 999);
        check.same("layer of the year 0 stays", x.layer(3, 0), 3);
        check.same("layer of the year 1", x.layer(3, 1), 999);
        check.same("ice", x.cellIs(3, 1), 1002);
        check.same("surface", x.cellIs(3, 3), 99 + 1002);
        check.same("told in all", x.total(5), 1002);
        check.cells("none beside it", x, 1, 2, 0, 1002, 0);
    }

    @Said(under = "Promise 5", value = "Tells ICE that a CELL has more, in its LAYER of the year of now.")
    static void isInTheLayerOfTheSnowOfNow(Check check) {
        IceLand x = new IceLand();
        x.climate(0, 4, 0);
        x.pass(1);
        x.ice(6, 3);
        check.same("layer of the year 1", x.layer(6, 1), 7);
    }

    @Said(under = "Promise 5", value = "Tells ICE that a CELL has more, in its LAYER of the year of now.")
    static void isInTheLayerOfTheLastYear(Check check) {
        IceLand x = Scene.LAST.make();
        int before = x.layer(11, 60);
        check.same("ice(11, 7)", x.ice(11, 7), x.cellIs(11, 1));
        check.same("layer of the year 60", x.layer(11, 60), before + 7);
    }

    @Said(under = "Promise 5", value = "- `units`: 1 to 999")
    static void takesAUnit(Check check) {
        IceLand x = new IceLand();
        check.same("ice(0, 1)", x.ice(0, 1), 1);
        check.same("ice(11, 1)", x.ice(11, 1), 1);
        check.same("told", x.total(5), 2);
    }

    @Said(under = "Promise 5", value = "- `units`: 1 to 999")
    static void takesTheMostUnits(Check check) {
        IceLand x = new IceLand();
        check.same("ice(0, 999)", x.ice(0, 999), 999);
        check.same("ice(11, 999)", x.ice(11, 999), 999);
        check.same("told", x.total(5), 1998);
    }

    @Said(under = "Promise 5", value = "Returns the ICE of the CELL then.")
    static void answersTheIceOfTheCellThen(Check check) {
        IceLand x = new IceLand();
        check.same("ice(3, 1)", x.ice(3, 1), 1);
        check.same("ice(3, 2)", x.ice(3, 2), 3);
        check.same("ice(4, 3) of another cell", x.ice(4, 3), 3);
        x.climate(0, 5, 0);
        x.pass(1);
        check.same("ice(3, 2) upon snow", x.ice(3, 2), 10);
    }

    @Said(under = "Promise 5", value = "Throws `IndexOutOfBoundsException` if there is no such CELL")
    static void refusesACellThatIsNot(Check check) {
        check.noSuch("ice(-1, 1)", x -> x.ice(-1, 1));
        check.noSuch("ice(12, 1)", x -> x.ice(12, 1));
        check.noSuch("ice(MIN, 1)", x -> x.ice(Integer.MIN_VALUE, 1));
        check.noSuch("ice(MAX, 1)", x -> x.ice(Integer.MAX_VALUE, 1));
    }

    @Said(under = "Promise 5", value = "Throws `IndexOutOfBoundsException` if there is no such CELL")
    static void refusesTheCellAheadOfTheUnits(Check check) {
        check.noSuch("ice(12, 0)", x -> x.ice(12, 0));
        check.noSuch("ice(-1, 1000)", x -> x.ice(-1, 1000));
    }

    @Said(under = "Promise 5", value = "Throws `IllegalArgumentException` if units is out of range")
    static void refusesUnitsOutOfRange(Check check) {
        check.outOfRange("ice(1, 0)", x -> x.ice(1, 0));
        check.outOfRange("ice(1, -1)", x -> x.ice(1, -1));
        check.outOfRange("ice(1, 1000)", x -> x.ice(1, 1000));
        check.outOfRange("ice(1, MIN)", x -> x.ice(1, Integer.MIN_VALUE));
        check.outOfRange("ice(1, MAX)", x -> x.ice(1, Integer.MAX_VALUE));
    }

    @Said(under = "Promise 5", value = "Throws `IllegalArgumentException` if units is out of range")
    static void refusesUnitsAheadOfAFullCell(Check check) {
        check.outOfRange(Scene.FULL, "ice(0, 1000) upon 9999", x -> x.ice(0, 1000));
        check.outOfRange(Scene.FULL, "ice(11, 0) upon 9999", x -> x.ice(11, 0));
        check.outOfRange(Scene.HEAPED, "ice(5, MAX) upon 14997", x -> x.ice(5, Integer.MAX_VALUE));
    }

    @Said(under = "Promise 5", value = "Throws `IllegalStateException` if it would have more than 9999")
    static void takesJust9999(Check check) {
        IceLand x = new IceLand();
        for (int i = 1; i <= 10; i++) {
            check.same("ice(0, 999)", x.ice(0, 999), 999 * i);
        }
        check.same("ice(0, 8)", x.ice(0, 8), 9998);
        check.same("ice(0, 1)", x.ice(0, 1), 9999);
        check.same("ice(1, 1) beside it", x.ice(1, 1), 1);
    }

    @Said(under = "Promise 5", value = "Throws `IllegalStateException` if it would have more than 9999")
    static void refusesAUnitMore(Check check) {
        check.notNow(Scene.FULL, "ice(0, 1) upon 9999", x -> x.ice(0, 1));
        check.notNow(Scene.FULL, "ice(11, 999) upon 9999", x -> x.ice(11, 999));
    }

    @Said(under = "Promise 5", value = "Throws `IllegalStateException` if it would have more than 9999")
    static void refusesAllOfWhatWouldBeTooMuch(Check check) {
        IceLand x = new IceLand();
        for (int i = 0; i < 10; i++) {
            x.ice(0, 999);
        }
        check.notNow(x, "10 upon 9990", y -> y.ice(0, 10));
        check.same("the ice stays", x.cellIs(0, 1), 9990);
        check.same("the layer stays", x.layer(0, 0), 9990);
        check.same("what was told stays", x.total(5), 9990);
        check.same("9 upon 9990", x.ice(0, 9), 9999);
    }

    @Said(under = "Promise 5", value = "Throws `IllegalStateException` if it would have more than 9999")
    static void refusesACellThatTheFlowFilled(Check check) {
        check.same("what came to cell 5", Scene.HEAPED.make().cellIs(5, 1), 14997);
        check.notNow(Scene.HEAPED, "ice(5, 1) upon 14997", x -> x.ice(5, 1));
        check.same("beside it there is room", Scene.HEAPED.make().ice(4, 999), 6000);
    }
}
