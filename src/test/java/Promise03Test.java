/** Promise 3: sea. */
public final class Promise03Test {
    public static void main(String[] args) {
        Check.run(Promise03Test.class);
    }

    @Said(under = "Promise 3", value = "Tells the level of the sea.")
    static void tellsTheLevelOfNow(Check check) {
        IceLand x = new IceLand();
        x.sea(101);
        check.same("land stands in it at once", x.cellIs(0, 7), 1);
        x.sea(0);
        check.same("and rises from it at once", x.cellIs(0, 7), 0);
    }

    @Said(under = "Promise 3", value = "- `level`: 0 to 500")
    static void takesTheLeastLevel(Check check) {
        IceLand x = new IceLand();
        x.land(3, 0);
        x.sea(1);
        check.same("a bed of 0 in a sea of 1", x.cellIs(3, 7), 1);
        check.same("sea(0)", x.sea(0), 1);
        check.same("a bed of 0 in a sea of 0", x.cellIs(3, 7), 0);
    }

    @Said(under = "Promise 3", value = "- `level`: 0 to 500")
    static void takesTheGreatestLevel(Check check) {
        IceLand x = new IceLand();
        x.land(3, 500);
        x.land(4, 499);
        check.same("sea(500)", x.sea(500), 0);
        check.cells("beds of 100, 500 and 499", x, 7, 2, 1, 0, 1);
        check.same("sea(500) again", x.sea(500), 500);
    }

    @Said(under = "Promise 3", value = "Returns the level before.")
    static void answersTheLevelBefore(Check check) {
        IceLand x = new IceLand();
        check.same("sea(101)", x.sea(101), 0);
        check.same("sea(7)", x.sea(7), 101);
        check.same("sea(7) again", x.sea(7), 7);
        x.ice(0, 3);
        x.pass(2);
        check.same("the level stays over years", x.sea(8), 7);
    }

    @Said(under = "Promise 3", value = "Throws `IllegalArgumentException` if level is out of range")
    static void refusesALevelOutOfRange(Check check) {
        check.outOfRange("sea(-1)", x -> x.sea(-1));
        check.outOfRange("sea(501)", x -> x.sea(501));
        check.outOfRange("sea(MIN)", x -> x.sea(Integer.MIN_VALUE));
        check.outOfRange("sea(MAX)", x -> x.sea(Integer.MAX_VALUE));
    }
}
