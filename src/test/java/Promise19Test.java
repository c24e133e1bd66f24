/** Promise 19: miss. */
public final class Promise19Test {
    private static final String MISS = "Returns the miss of a forecast.";
    private static final String NOT_YET = "Returns the miss; NONE if that year has not passed.";
    private static final String NO_FORECAST = "Throws `IndexOutOfBoundsException` if there is no such forecast";

    public static void main(String[] args) {
        Check.run(Promise19Test.class);
    }

    /** Three units are forecast for the years 2, 1 and 20. */
    private static IceLand land() {
        IceLand x = new IceLand();
        x.ice(3, 3);
        x.forecast(2);
        x.forecast(1);
        x.forecast(20);
        return x;
    }

    @Said(under = "Promise 19", value = MISS)
    static void is0IfAllCameAsForecast(Check check) {
        IceLand x = land();
        x.pass(20);
        check.same("of the year 2", x.miss(0), 0);
        check.same("of the year 1", x.miss(1), 0);
        check.same("of the year 20", x.miss(2), 0);
    }

    @Said(under = "Promise 19", value = MISS)
    static void isWithoutSignIfMoreCame(Check check) {
        IceLand x = land();
        x.ice(8, 2);
        x.pass(1);
        check.same("2 units more", x.miss(1), 2);
    }

    @Said(under = "Promise 19", value = MISS)
    static void isWithoutSignIfLessCame(Check check) {
        IceLand x = land();
        x.climate(300, 0, 9);
        x.pass(1);
        check.same("3 units less", x.miss(1), 3);
    }

    @Said(under = "Promise 19", value = NOT_YET)
    static void isNoneUntilItsYear(Check check) {
        IceLand x = land();
        check.same("at once", x.miss(1), IceLand.NONE);
        x.pass(1);
        check.same("of the year 1 in the year 1", x.miss(1), 0);
        check.same("of the year 2 in the year 1", x.miss(0), IceLand.NONE);
        x.pass(1);
        check.same("of the year 2 in the year 2", x.miss(0), 0);
        x.pass(17);
        check.same("of the year 20 in the year 19", x.miss(2), IceLand.NONE);
        x.pass(1);
        check.same("of the year 20 in the year 20", x.miss(2), 0);
    }

    @Said(under = "Promise 19", value = NOT_YET)
    static void isOfTheYear60(Check check) {
        IceLand x = Scene.LATE.make();
        int number = Scene.LATE.forecasts;
        x.forecast(19);
        x.pass(18);
        check.same("in the year 59", x.miss(number), IceLand.NONE);
        x.pass(1);
        check.same("in the year 60", x.miss(number), 0);
    }

    @Said(under = "Promise 19", value = NOT_YET)
    static void isNoneWhateverWouldBe(Check check) {
        IceLand x = land();
        x.would(20, 3, 1);
        x.forecast(20);
        check.same("no year has passed by asking", x.miss(1), IceLand.NONE);
    }

    @Said(under = "Promise 19", value = NO_FORECAST)
    static void refusesWhereThereIsNone(Check check) {
        check.noSuch(Scene.NEW, "miss(0)", x -> x.miss(0));
        check.noSuch(Scene.PUDDLE, "miss(0)", x -> x.miss(0));
    }

    @Said(under = "Promise 19", value = NO_FORECAST)
    static void refusesTheOneBehindTheLast(Check check) {
        for (Scene scene : Scene.values()) {
            int next = scene.forecasts;
            check.noSuch(scene, "miss(" + next + ")", x -> x.miss(next));
        }
    }

    @Said(under = "Promise 19", value = NO_FORECAST)
    static void refusesNumbersFarOff(Check check) {
        check.noSuch("miss(-1)", x -> x.miss(-1));
        check.noSuch("miss(10)", x -> x.miss(10));
        check.noSuch("miss(MIN)", x -> x.miss(Integer.MIN_VALUE));
        check.noSuch("miss(MAX)", x -> x.miss(Integer.MAX_VALUE));
    }

    @Said(under = "Promise 19", value = NO_FORECAST)
    static void refusesOneThatWasRefused(Check check) {
        check.noSuch(Scene.FULL, "miss(10) behind a refused forecast", x -> {
            try {
                x.forecast(1);
            } catch (IllegalStateException e) {
                x.miss(10);
            }
        });
    }
}
