/** Promise 14: front. */
public final class Promise14Test {
    private static final String OUT_OF_RANGE = "Throws `IllegalArgumentException` if year is out of range";

    public static void main(String[] args) {
        Check.run(Promise14Test.class);
    }

    /** A front at the end in the year 1, at cell 4 in the year 2, none in the year 3. */
    private static IceLand land() {
        IceLand x = new IceLand();
        x.ice(11, 1);
        x.pass(1);
        x.climate(70, 0, 1);
        x.ice(4, 2);
        x.pass(2);
        return x;
    }

    @Said(under = "Promise 14", value = "Returns the FRONT of a year.")
    static void answersTheFrontOfEachYear(Check check) {
        IceLand x = land();
        check.same("front(1)", x.front(1), 11);
        check.same("front(2)", x.front(2), 4);
        x.climate(0, 0, 0);
        x.ice(0, 1);
        x.pass(1);
        check.same("front(4) at the head", x.front(4), 0);
        check.same("front(1) stays", x.front(1), 11);
    }

    @Said(under = "Promise 14", value = "- `year`: 0 to that of now")
    static void takesTheYearOfNow(Check check) {
        check.same("front(3) in the year 3", land().front(3), IceLand.NONE);
        check.same("front(41) in the year 41", Scene.LATE.make().front(41), 9);
        check.same("front(60) in the year 60", Scene.LAST.make().front(60), 10);
        check.same("front(0) in the year 0", Scene.TOLD.make().front(0), IceLand.NONE);
    }

    @Said(under = "Promise 14", value = "Returns the CELL; NONE without, and for the year 0.")
    static void isNoneWithoutIce(Check check) {
        check.same("front(3)", land().front(3), IceLand.NONE);
        IceLand x = new IceLand();
        x.pass(1);
        x.ice(5, 9);
        check.same("ice told behind the year", x.front(1), IceLand.NONE);
    }

    @Said(under = "Promise 14", value = "Returns the CELL; NONE without, and for the year 0.")
    static void isNoneForTheYear0(Check check) {
        IceLand x = new IceLand();
        x.ice(11, 1);
        check.same("whatever is told", x.front(0), IceLand.NONE);
        x.pass(1);
        check.same("whatever comes", x.front(0), IceLand.NONE);
    }

    @Said(under = "Promise 14", value = OUT_OF_RANGE)
    static void refusesAYearBelow0(Check check) {
        check.outOfRange("front(-1)", x -> x.front(-1));
        check.outOfRange("front(MIN)", x -> x.front(Integer.MIN_VALUE));
    }

    @Said(under = "Promise 14", value = OUT_OF_RANGE)
    static void refusesAYearToCome(Check check) {
        for (Scene scene : Scene.values()) {
            int next = scene.year + 1;
            check.outOfRange(scene, "front(" + next + ")", x -> x.front(next));
        }
        check.outOfRange("front(61)", x -> x.front(61));
        check.outOfRange("front(MAX)", x -> x.front(Integer.MAX_VALUE));
    }

    @Said(under = "Promise 14", value = OUT_OF_RANGE)
    static void refusesAYearThatWasForeseenAlone(Check check) {
        check.outOfRange(Scene.LIVELY, "front(5) after would(5, 0, 0)", x -> {
            x.would(5, 0, 0);
            x.front(5);
        });
        check.outOfRange(Scene.TOLD, "front(1), of which there is a forecast", x -> x.front(1));
    }
}
