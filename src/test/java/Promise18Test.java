/** Promise 18: forecast. */
public final class Promise18Test {
    private static final String YEARS = "- `years`: 1 to 20";
    private static final String OUT_OF_RANGE = "Throws `IllegalArgumentException` if years is out of range";
    private static final String NOT_NOW = "Throws `IllegalStateException` if it would be above the year 60, "
        + "or there are 10";

    public static void main(String[] args) {
        Check.run(Promise18Test.class);
    }

    @Said(under = "Promise 18", value = "Makes a forecast.")
    static void isNumberedFrom0(Check check) {
        IceLand x = new IceLand();
        x.forecast(1);
        check.same("the first is number 0", x.miss(0), IceLand.NONE);
        x.forecast(20);
        check.same("the next one is number 1", x.miss(1), IceLand.NONE);
        x.pass(1);
        check.same("the first was for the year 1", x.miss(0), 0);
        check.same("the next one was not", x.miss(1), IceLand.NONE);
    }

    @Said(under = "Promise 18", value = "Makes a forecast.")
    static void changesNothingThatIs(Check check) {
        for (Question question : new Question[] {Question.CELLS, Question.UPPER_LAYERS, Question.LOWER_LAYERS,
                Question.CORES, Question.WHAT_WOULD_BE}) {
            IceLand x = Scene.LIVELY.make();
            x.forecast(20);
            check.same("" + question, question.askedOf(x), question.askedAtFirst(Scene.LIVELY));
        }
    }

    @Said(under = "Promise 18", value = YEARS)
    static void takesAYear(Check check) {
        IceLand x = new IceLand();
        x.climate(0, 2, 0);
        check.same("forecast(1)", x.forecast(1), 24);
    }

    @Said(under = "Promise 18", value = YEARS)
    static void takesTwentyYears(Check check) {
        IceLand x = new IceLand();
        x.climate(0, 2, 0);
        check.same("forecast(20)", x.forecast(20), 480);
    }

    @Said(under = "Promise 18", value = "Returns the ICE of all CELLS that there would be.")
    static void answersTheIceThatThereWouldBe(Check check) {
        for (Scene scene : new Scene[] {Scene.TOLD, Scene.LIVELY, Scene.HEAPED, Scene.PUDDLE, Scene.LATE}) {
            IceLand foreseen = scene.make();
            IceLand passed = scene.make();
            int answer = foreseen.forecast(12);
            passed.pass(12);
            check.same(scene + ": forecast(12)", answer, passed.total(0));
        }
    }

    @Said(under = "Promise 18", value = "Returns the ICE of all CELLS that there would be.")
    static void answersNoIceThatMeltsOff(Check check) {
        IceLand x = new IceLand();
        x.ice(5, 3);
        x.climate(55, 9, 5);
        check.same("forecast(1) of melting ice", x.forecast(1), 1);
        check.same("forecast(2) of melting ice", x.forecast(2), 0);
    }

    @Said(under = "Promise 18", value = OUT_OF_RANGE)
    static void refusesYearsOutOfRange(Check check) {
        check.outOfRange("forecast(0)", x -> x.forecast(0));
        check.outOfRange("forecast(-1)", x -> x.forecast(-1));
        check.outOfRange("forecast(21)", x -> x.forecast(21));
        check.outOfRange("forecast(MIN)", x -> x.forecast(Integer.MIN_VALUE));
        check.outOfRange("forecast(MAX)", x -> x.forecast(Integer.MAX_VALUE));
    }

    @Said(under = "Promise 18", value = OUT_OF_RANGE)
    static void refusesThemAheadOfTheRest(Check check) {
        check.outOfRange(Scene.LATE, "forecast(21) in the year 41", x -> x.forecast(21));
        check.outOfRange(Scene.LAST, "forecast(0) in the year 60", x -> x.forecast(0));
        check.outOfRange(Scene.FULL, "forecast(21) where there are 10", x -> x.forecast(21));
        check.outOfRange(Scene.FULL, "forecast(0) where there are 10", x -> x.forecast(0));
    }

    @Said(under = "Promise 18", value = NOT_NOW)
    static void foreseesTheYear60(Check check) {
        IceLand x = Scene.LATE.make();
        int foreseen = x.forecast(19);
        x.pass(19);
        check.same("the ice of the year 60", x.total(0), foreseen);
        check.same("miss", x.miss(Scene.LATE.forecasts), 0);
        IceLand y = new IceLand();
        y.pass(20);
        y.pass(20);
        check.same("forecast(20) in the year 40", y.forecast(20), 0);
    }

    @Said(under = "Promise 18", value = NOT_NOW)
    static void refusesToForeseeTheYear61(Check check) {
        check.notNow(Scene.LATE, "forecast(20) in the year 41", x -> x.forecast(20));
        check.notNow(Scene.LAST, "forecast(1) in the year 60", x -> x.forecast(1));
        check.notNow(Scene.LAST, "forecast(20) in the year 60", x -> x.forecast(20));
    }

    @Said(under = "Promise 18", value = NOT_NOW)
    static void aRefusedOneIsNotNoted(Check check) {
        IceLand x = Scene.LATE.make();
        check.notNow(x, "forecast(20) in the year 41", y -> y.forecast(20));
        for (int i = Scene.LATE.forecasts; i < 10; i++) {
            x.forecast(1);
        }
        check.notNow(x, "an eleventh", y -> y.forecast(1));
        check.same("the tenth", x.miss(9), IceLand.NONE);
    }

    @Said(under = "Promise 18", value = NOT_NOW)
    static void takesTen(Check check) {
        IceLand x = new IceLand();
        x.ice(3, 2);
        for (int i = 0; i < 10; i++) {
            check.same("forecast(1), number " + i, x.forecast(1), 2);
        }
        x.pass(1);
        check.same("the tenth is held", x.miss(9), 0);
    }

    @Said(under = "Promise 18", value = NOT_NOW)
    static void refusesAnEleventh(Check check) {
        check.notNow(Scene.FULL, "forecast(1)", x -> x.forecast(1));
        check.notNow(Scene.FULL, "forecast(20)", x -> x.forecast(20));
    }

    @Said(under = "Promise 18", value = NOT_NOW)
    static void refusesAnEleventhLaterToo(Check check) {
        IceLand x = Scene.FULL.make();
        x.pass(20);
        check.same("the tenth has passed", x.miss(9), 0);
        check.notNow(x, "an eleventh", y -> y.forecast(1));
        x.pass(20);
        x.pass(20);
        check.notNow(x, "an eleventh in the year 60", y -> y.forecast(1));
    }
}
