/** Promise 2: land. */
public final class Promise02Test {
    public static void main(String[] args) {
        Check.run(Promise02Test.class);
    }

    @Said(under = "Promise 2", value = "Tells the BED of a CELL, and its BASE.")
    static void tellsBedAndBase(Check check) {
        IceLand x = new IceLand();
        x.land(4, 7);
        check.cells("bed", x, 0, 3, 100, 7, 100);
        check.cells("base", x, 8, 3, 100, 7, 100);
        check.cells("surface", x, 3, 3, 100, 7, 100);
        check.cells("potential", x, 9, 3, 1000, 70, 1000);
        x.pass(3);
        check.same("a bed at its base stays", x.cellIs(4, 0), 7);
    }

    @Said(under = "Promise 2", value = "Tells the BED of a CELL, and its BASE.")
    static void tellsOfTheHeadAndOfTheEnd(Check check) {
        IceLand x = new IceLand();
        x.land(0, 31);
        x.land(11, 32);
        check.cells("the head", x, 0, 0, 31, 100);
        check.cells("the end", x, 0, 10, 100, 32);
    }

    @Said(under = "Promise 2", value = "- `bed`: 0 to 500")
    static void takesTheLeastBed(Check check) {
        IceLand x = new IceLand();
        check.same("land(6, 0)", x.land(6, 0), 100);
        check.same("bed", x.cellIs(6, 0), 0);
        check.same("base", x.cellIs(6, 8), 0);
    }

    @Said(under = "Promise 2", value = "- `bed`: 0 to 500")
    static void takesTheGreatestBed(Check check) {
        IceLand x = new IceLand();
        check.same("land(6, 500)", x.land(6, 500), 100);
        check.same("bed", x.cellIs(6, 0), 500);
        check.same("base", x.cellIs(6, 8), 500);
    }

    @Said(under = "Promise 2", value = "Returns the BED before.")
    static void answersTheBedBefore(Check check) {
        IceLand x = new IceLand();
        check.same("land(0, 0)", x.land(0, 0), 100);
        check.same("land(0, 500)", x.land(0, 500), 0);
        check.same("land(0, 7)", x.land(0, 7), 500);
        check.same("land(0, 7) again", x.land(0, 7), 7);
        check.same("land(11, 20)", x.land(11, 20), 100);
    }

    @Said(under = "Promise 2", value = "Returns the BED before.")
    static void answersTheBedNotTheBase(Check check) {
        IceLand x = new IceLand();
        x.ice(11, 9);
        x.pass(3);
        check.same("sunk bed", x.cellIs(11, 0), 97);
        x.climate(300, 0, 9);
        x.pass(1);
        check.same("ice molten", x.cellIs(11, 1), 0);
        check.same("base", x.cellIs(11, 8), 100);
        check.same("land(11, 50)", x.land(11, 50), 98);
        check.same("base told", x.cellIs(11, 8), 50);
        x.pass(1);
        check.same("stays at the new base", x.cellIs(11, 0), 50);
    }

    @Said(under = "Promise 2", value = "Throws `IndexOutOfBoundsException` if there is no such CELL")
    static void refusesACellThatIsNot(Check check) {
        check.noSuch("land(-1, 5)", x -> x.land(-1, 5));
        check.noSuch("land(12, 5)", x -> x.land(12, 5));
        check.noSuch("land(MIN, 5)", x -> x.land(Integer.MIN_VALUE, 5));
        check.noSuch("land(MAX, 5)", x -> x.land(Integer.MAX_VALUE, 5));
    }

    @Said(under = "Promise 2", value = "Throws `IndexOutOfBoundsException` if there is no such CELL")
    static void refusesTheCellAheadOfTheBed(Check check) {
        check.noSuch("land(-1, -1)", x -> x.land(-1, -1));
        check.noSuch("land(12, 501)", x -> x.land(12, 501));
    }

    @Said(under = "Promise 2", value = "Throws `IllegalArgumentException` if bed is out of range")
    static void refusesABedOutOfRange(Check check) {
        check.outOfRange("land(0, -1)", x -> x.land(0, -1));
        check.outOfRange("land(0, 501)", x -> x.land(0, 501));
        check.outOfRange("land(11, MIN)", x -> x.land(11, Integer.MIN_VALUE));
        check.outOfRange("land(11, MAX)", x -> x.land(11, Integer.MAX_VALUE));
    }

    @Said(under = "Promise 2", value = "Throws `IllegalArgumentException` if bed is out of range")
    static void refusesTheBedAheadOfIceAndWater(Check check) {
        check.outOfRange(Scene.TOLD, "land(1, 501) on ice", x -> x.land(1, 501));
        check.outOfRange(Scene.PUDDLE, "land(4, -1) under water", x -> x.land(4, -1));
    }

    @Said(under = "Promise 2", value = "Throws `IllegalStateException` if it has ICE or WATER")
    static void refusesACellWithIce(Check check) {
        check.same("cell 8 has ice", Scene.TOLD.make().cellIs(8, 1), 11);
        check.notNow(Scene.TOLD, "land(8, 94) on ice", x -> x.land(8, 94));
        check.notNow(Scene.FULL, "land(0, 0) on full ice", x -> x.land(0, 0));
        check.notNow(Scene.FULL, "land(11, 500) on full ice", x -> x.land(11, 500));
        check.notNow(Scene.HEAPED, "land(5, 0) on heaped ice", x -> x.land(5, 0));
        IceLand x = new IceLand();
        x.ice(3, 1);
        check.notNow(x, "a unit of ice is enough", y -> y.land(3, 5));
        check.same("the bed stays", x.cellIs(3, 0), 100);
        check.same("the base stays", x.cellIs(3, 8), 100);
    }

    @Said(under = "Promise 2", value = "Throws `IllegalStateException` if it has ICE or WATER")
    static void refusesACellWithAUnitOfWater(Check check) {
        check.cells("water alone", Scene.PUDDLE.make(), 2, 3, 0, 1, 0);
        check.cells("and no ice", Scene.PUDDLE.make(), 1, 3, 0, 0, 0);
        check.notNow(Scene.PUDDLE, "land(4, 90) under water", x -> x.land(4, 90));
        check.notNow(Scene.PUDDLE, "land(4, 0) under water", x -> x.land(4, 0));
    }

    @Said(under = "Promise 2", value = "Throws `IllegalStateException` if it has ICE or WATER")
    static void refusesACellWithBoth(Check check) {
        check.same("ice of 7", Scene.LIVELY.make().cellIs(7, 1), 6);
        check.same("water of 7", Scene.LIVELY.make().cellIs(7, 2), 35);
        check.notNow(Scene.LIVELY, "land(7, 70) under water and ice", x -> x.land(7, 70));
    }

    @Said(under = "Promise 2", value = "Throws `IllegalStateException` if it has ICE or WATER")
    static void takesACellWhoseIceAndWaterAreGone(Check check) {
        IceLand x = Scene.PUDDLE.make();
        check.same("beside water", x.land(5, 80), 100);
        x.pass(1);
        check.same("the water ran off", x.cellIs(4, 2), 0);
        check.same("land(4, 3)", x.land(4, 3), 90);
        IceLand y = Scene.TOLD.make();
        check.same("beside ice", y.land(9, 3), 100);
    }
}
