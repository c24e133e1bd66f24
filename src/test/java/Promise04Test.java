/** Promise 4: climate. */
public final class Promise04Test {
    public static void main(String[] args) {
        Check.run(Promise04Test.class);
    }

    @Said(under = "Promise 4", value = "Tells the climate, from the next year on.")
    static void isOfTheNextYearOn(Check check) {
        IceLand x = new IceLand();
        x.climate(0, 2, 0);
        check.same("nothing falls as it is told", x.total(4), 0);
        x.pass(1);
        check.same("snow", x.total(4), 24);
        x.pass(1);
        check.same("it stays", x.total(4), 48);
        x.climate(0, 1, 0);
        check.same("what fell stays", x.total(4), 48);
        x.pass(1);
        check.same("less snow", x.total(4), 60);
    }

    @Said(under = "Promise 4", value = "Tells the climate, from the next year on.")
    static void theLastOneToldIsTheOne(Check check) {
        IceLand x = new IceLand();
        x.climate(-300, 20, 9);
        x.climate(0, 3, 1);
        x.pass(1);
        check.same("snow", x.total(4), 36);
    }

    @Said(under = "Promise 4", value = "- `warmth`: -300 to 300")
    static void takesTheLeastWarmth(Check check) {
        IceLand x = new IceLand();
        x.climate(300, 1, 9);
        x.climate(-300, 1, 9);
        x.pass(1);
        check.same("snow", x.total(4), 12);
        check.same("no melt", x.total(1) + x.total(2), 0);
    }

    @Said(under = "Promise 4", value = "- `warmth`: -300 to 300")
    static void takesTheGreatestWarmth(Check check) {
        IceLand x = new IceLand();
        // The warmth of 11 is 300 less half of 400: 100, times 9, a tenth of that; that of 10 is 300 less 250.
        x.land(11, 300);
        x.ice(11, 100);
        x.land(10, 500);
        x.climate(300, 20, 9);
        x.pass(1);
        check.same("melt", x.total(2), 90);
        check.same("no snow", x.total(4), 0);
    }

    @Said(under = "Promise 4", value = "- `snow`: 0 to 20")
    static void takesNoSnow(Check check) {
        IceLand x = new IceLand();
        x.climate(-300, 20, 0);
        x.climate(-300, 0, 0);
        x.pass(1);
        check.same("no snow", x.total(4), 0);
        check.same("no layer", x.yearAt(0, 0), IceLand.NONE);
    }

    @Said(under = "Promise 4", value = "- `snow`: 0 to 20")
    static void takesTheMostSnow(Check check) {
        IceLand x = new IceLand();
        x.climate(-300, 20, 0);
        x.pass(1);
        check.same("snow", x.total(4), 240);
        check.same("of a cell", x.layer(11, 1), 20);
    }

    @Said(under = "Promise 4", value = "- `factor`: 0 to 9")
    static void takesNoFactor(Check check) {
        IceLand x = new IceLand();
        x.ice(11, 30);
        x.climate(300, 0, 9);
        x.climate(300, 0, 0);
        x.pass(1);
        check.same("nothing melts", x.total(1) + x.total(2), 0);
    }

    @Said(under = "Promise 4", value = "- `factor`: 0 to 9")
    static void takesTheGreatestFactor(Check check) {
        IceLand x = new IceLand();
        x.ice(11, 20);
        // 10 warmer than half of 120.
        x.climate(70, 0, 9);
        x.pass(1);
        check.same("melt", x.total(2), 9);
    }

    @Said(under = "Promise 4", value = "Throws `IllegalArgumentException` if warmth, snow or factor is out of range")
    static void refusesAWarmthOutOfRange(Check check) {
        check.outOfRange("climate(-301, 1, 1)", x -> x.climate(-301, 1, 1));
        check.outOfRange("climate(301, 1, 1)", x -> x.climate(301, 1, 1));
        check.outOfRange("climate(MIN, 20, 9)", x -> x.climate(Integer.MIN_VALUE, 20, 9));
        check.outOfRange("climate(MAX, 20, 9)", x -> x.climate(Integer.MAX_VALUE, 20, 9));
    }

    @Said(under = "Promise 4", value = "Throws `IllegalArgumentException` if warmth, snow or factor is out of range")
    static void refusesASnowOutOfRange(Check check) {
        check.outOfRange("climate(-300, -1, 9)", x -> x.climate(-300, -1, 9));
        check.outOfRange("climate(-300, 21, 9)", x -> x.climate(-300, 21, 9));
        check.outOfRange("climate(300, MIN, 9)", x -> x.climate(300, Integer.MIN_VALUE, 9));
        check.outOfRange("climate(300, MAX, 9)", x -> x.climate(300, Integer.MAX_VALUE, 9));
    }

    @Said(under = "Promise 4", value = "Throws `IllegalArgumentException` if warmth, snow or factor is out of range")
    static void refusesAFactorOutOfRange(Check check) {
        check.outOfRange("climate(-300, 20, -1)", x -> x.climate(-300, 20, -1));
        check.outOfRange("climate(300, 20, 10)", x -> x.climate(300, 20, 10));
        check.outOfRange("climate(-300, 20, MIN)", x -> x.climate(-300, 20, Integer.MIN_VALUE));
        check.outOfRange("climate(-300, 20, MAX)", x -> x.climate(-300, 20, Integer.MAX_VALUE));
    }

    @Said(under = "Promise 4", value = "Throws `IllegalArgumentException` if warmth, snow or factor is out of range")
    static void refusesAllThreeOutOfRange(Check check) {
        check.outOfRange("climate(-301, 21, 10)", x -> x.climate(-301, 21, 10));
        check.outOfRange("climate(301, -1, -1)", x -> x.climate(301, -1, -1));
    }
}
