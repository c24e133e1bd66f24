/** Promise 7: pass; the steps of a year have tests of their own. */
public final class Promise07Test {
    public static void main(String[] args) {
        Check.run(Promise07Test.class);
    }

    @Said(under = "Promise 7", value = "Lets years pass.")
    static void manyAtOnceAreAsOneByOne(Check check) {
        IceLand once = Scene.TOLD.make();
        IceLand singly = Scene.TOLD.make();
        once.pass(19);
        for (int i = 0; i < 19; i++) {
            singly.pass(1);
        }
        check.same("cells after 19 years", Question.CELLS.askedOf(once), Question.CELLS.askedOf(singly));
        check.same("annals of 19 years", Question.ANNALS.askedOf(once), Question.ANNALS.askedOf(singly));
    }

    @Said(under = "Promise 7", value = "- `years`: 1 to 20")
    static void takesAYear(Check check) {
        IceLand x = new IceLand();
        check.same("pass(1)", x.pass(1), 1);
        check.same("front(1)", x.front(1), IceLand.NONE);
    }

    @Said(under = "Promise 7", value = "- `years`: 1 to 20")
    static void takesTwentyYears(Check check) {
        IceLand x = new IceLand();
        x.climate(0, 1, 0);
        check.same("pass(20)", x.pass(20), 20);
        check.same("each of them had snow", x.total(4), 240);
    }

    @Said(under = "Promise 7", value = "Returns the year then.")
    static void answersTheYearThen(Check check) {
        IceLand x = new IceLand();
        check.same("pass(1)", x.pass(1), 1);
        check.same("pass(2)", x.pass(2), 3);
        check.same("pass(20)", x.pass(20), 23);
        check.same("pass(20) again", x.pass(20), 43);
    }

    @Said(under = "Promise 7", value = "Throws `IllegalArgumentException` if years is out of range")
    static void refusesYearsOutOfRange(Check check) {
        check.outOfRange("pass(0)", x -> x.pass(0));
        check.outOfRange("pass(-1)", x -> x.pass(-1));
        check.outOfRange("pass(21)", x -> x.pass(21));
        check.outOfRange("pass(MIN)", x -> x.pass(Integer.MIN_VALUE));
        check.outOfRange("pass(MAX)", x -> x.pass(Integer.MAX_VALUE));
    }

    @Said(under = "Promise 7", value = "Throws `IllegalArgumentException` if years is out of range")
    static void refusesTheYearsAheadOfTheLastYear(Check check) {
        check.outOfRange(Scene.LATE, "pass(21) in the year 41", x -> x.pass(21));
        check.outOfRange(Scene.LAST, "pass(61) in the year 60", x -> x.pass(61));
        check.outOfRange(Scene.LAST, "pass(-60) in the year 60", x -> x.pass(-60));
    }

    @Said(under = "Promise 7", value = "Throws `IllegalStateException` if it would be above 60")
    static void comesToJust60(Check check) {
        check.same("pass(19) in the year 41", Scene.LATE.make().pass(19), 60);
        IceLand x = new IceLand();
        x.pass(20);
        x.pass(20);
        check.same("pass(20) in the year 40", x.pass(20), 60);
    }

    @Said(under = "Promise 7", value = "Throws `IllegalStateException` if it would be above 60")
    static void refusesToComeTo61(Check check) {
        check.notNow(Scene.LATE, "pass(20) in the year 41", x -> x.pass(20));
        check.notNow(Scene.LAST, "pass(1) in the year 60", x -> x.pass(1));
        check.notNow(Scene.LAST, "pass(20) in the year 60", x -> x.pass(20));
    }

    @Said(under = "Promise 7", value = "Throws `IllegalStateException` if it would be above 60")
    static void refusedItPassesNoneOfThem(Check check) {
        IceLand x = new IceLand();
        x.climate(0, 1, 0);
        x.pass(20);
        x.pass(20);
        x.pass(19);
        check.notNow(x, "pass(2) in the year 59", y -> y.pass(2));
        check.same("no snow of it", x.total(4), 59 * 12);
        check.same("pass(1)", x.pass(1), 60);
        check.same("snow then", x.total(4), 60 * 12);
    }
}
