/** Promise 18: forecast. */
public final class Promise18Test {
    public static void main(String[] args) {
        Check check = new Check("Promise 18");
        answers(check);
        atMostTen(check);
        refuses(check);
        check.end();
    }

    private static void answers(Check check) {
        IceLand x = new IceLand();
        x.climate(0, 2, 0);
        String before = Check.stateOf(x);
        check.same("forecast(1)", x.forecast(1), 24);
        check.same("forecast(3)", x.forecast(3), 72);
        check.same("a forecast changes nothing that is", Check.stateOf(x), before);
        x.ice(5, 3);
        check.same("forecast(1) with more ice", x.forecast(1), 27);
        x.pass(1);
        check.same("the ice then", x.total(0), 27);
        check.same("forecast(20)", x.forecast(20), 507);
        IceLand y = new IceLand();
        y.ice(5, 3);
        y.climate(55, 9, 5);
        check.same("forecast(1) of melting ice", y.forecast(1), 1);
        check.same("forecast(2) of melting ice", y.forecast(2), 0);
    }

    private static void atMostTen(Check check) {
        IceLand x = new IceLand();
        x.ice(3, 2);
        for (int i = 0; i < 10; i++) {
            check.same("forecast(1), number " + i, x.forecast(1), 2);
        }
        check.notNow("an eleventh", () -> x.forecast(1));
        check.outOfRange("an eleventh of no year", () -> x.forecast(0));
        check.outOfRange("an eleventh of 21 years", () -> x.forecast(21));
        x.pass(1);
        check.same("the tenth is held", x.miss(9), 0);
        check.notNow("an eleventh later", () -> x.forecast(1));
        check.noCell("the eleventh is not held", () -> x.miss(10));
    }

    private static void refuses(Check check) {
        IceLand x = new IceLand();
        check.outOfRange("forecast(0)", () -> x.forecast(0));
        check.outOfRange("forecast(-1)", () -> x.forecast(-1));
        check.outOfRange("forecast(21)", () -> x.forecast(21));
        check.outOfRange("forecast(MAX)", () -> x.forecast(Integer.MAX_VALUE));
        check.outOfRange("forecast(MIN)", () -> x.forecast(Integer.MIN_VALUE));
        x.pass(20);
        x.pass(20);
        x.pass(1);
        check.notNow("forecast(20) in the year 41", () -> x.forecast(20));
        check.outOfRange("forecast(21) in the year 41", () -> x.forecast(21));
        check.noCell("a refused one is not noted", () -> x.miss(0));
        check.same("forecast(19) in the year 41", x.forecast(19), 0);
        check.same("it is noted", x.miss(0), IceLand.NONE);
    }
}
