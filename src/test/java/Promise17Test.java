/** Promise 17: would. */
public final class Promise17Test {
    private static final String BEHIND = "Returns what cellIs() would tell behind some years.";
    private static final String YEARS = "- `years`: 1 to 20";
    private static final String NO_CELL = "Throws `IndexOutOfBoundsException` if there is no such CELL";
    private static final String OUT_OF_RANGE = "Throws `IllegalArgumentException` if years or what is out of range";
    private static final String TOO_LATE = "Throws `IllegalStateException` if it would be above the year 60";

    public static void main(String[] args) {
        Check.run(Promise17Test.class);
    }

    /** What would be behind so many years is asked of one land, and those years pass in another one. */
    private static void isWhatComes(Check check, Scene scene, int years) {
        IceLand asked = scene.make();
        IceLand passed = scene.make();
        passed.pass(years);
        for (int cell = 0; cell < 12; cell++) {
            for (int what = 0; what <= 9; what++) {
                check.same(scene + ": would(" + years + ", " + cell + ", " + what + ")",
                    asked.would(years, cell, what), passed.cellIs(cell, what));
            }
        }
        asked.pass(years);
        check.same("asking changes no cell that comes", Question.CELLS.askedOf(asked),
            Question.CELLS.askedOf(passed));
        check.same("nor what is noted", Question.ANNALS.askedOf(asked), Question.ANNALS.askedOf(passed));
    }

    @Said(under = "Promise 17", value = BEHIND)
    static void isWhatComesBehindSevenYears(Check check) {
        isWhatComes(check, Scene.TOLD, 7);
        isWhatComes(check, Scene.LIVELY, 7);
        isWhatComes(check, Scene.HEAPED, 7);
    }

    @Said(under = "Promise 17", value = YEARS)
    static void takesAYear(Check check) {
        isWhatComes(check, Scene.NEW, 1);
        isWhatComes(check, Scene.LIVELY, 1);
        isWhatComes(check, Scene.FULL, 1);
    }

    @Said(under = "Promise 17", value = YEARS)
    static void takesTwentyYears(Check check) {
        isWhatComes(check, Scene.TOLD, 20);
        isWhatComes(check, Scene.LIVELY, 20);
        isWhatComes(check, Scene.FULL, 20);
    }

    @Said(under = "Promise 17", value = "- `what`: as of cellIs()")
    static void takesTheFirstWhatAndTheLast(Check check) {
        IceLand x = new IceLand();
        x.ice(3, 9);
        check.same("its bed", x.would(2, 3, 0), 98);
        check.same("its potential", x.would(2, 3, 9), 980 + 81);
    }

    @Said(under = "Promise 17", value = NO_CELL)
    static void refusesACellThatIsNot(Check check) {
        for (Scene scene : new Scene[] {Scene.NEW, Scene.LIVELY, Scene.FULL, Scene.LATE}) {
            check.noSuch(scene, "would(1, -1, 0)", x -> x.would(1, -1, 0));
            check.noSuch(scene, "would(1, 12, 0)", x -> x.would(1, 12, 0));
            check.noSuch(scene, "would(1, MIN, 0)", x -> x.would(1, Integer.MIN_VALUE, 0));
            check.noSuch(scene, "would(1, MAX, 0)", x -> x.would(1, Integer.MAX_VALUE, 0));
        }
    }

    @Said(under = "Promise 17", value = NO_CELL)
    static void refusesTheCellAheadOfTheRest(Check check) {
        check.noSuch("would(0, 12, 0)", x -> x.would(0, 12, 0));
        check.noSuch("would(1, -1, 10)", x -> x.would(1, -1, 10));
        check.noSuch("would(21, 12, -1)", x -> x.would(21, 12, -1));
        check.noSuch(Scene.LATE, "would(20, 12, 0) in the year 41", x -> x.would(20, 12, 0));
        check.noSuch(Scene.LAST, "would(1, -1, 0) in the year 60", x -> x.would(1, -1, 0));
    }

    @Said(under = "Promise 17", value = OUT_OF_RANGE)
    static void refusesYearsOutOfRange(Check check) {
        check.outOfRange("would(0, 0, 0)", x -> x.would(0, 0, 0));
        check.outOfRange("would(-1, 0, 0)", x -> x.would(-1, 0, 0));
        check.outOfRange("would(21, 0, 0)", x -> x.would(21, 0, 0));
        check.outOfRange("would(MIN, 11, 9)", x -> x.would(Integer.MIN_VALUE, 11, 9));
        check.outOfRange("would(MAX, 11, 9)", x -> x.would(Integer.MAX_VALUE, 11, 9));
    }

    @Said(under = "Promise 17", value = OUT_OF_RANGE)
    static void refusesAWhatOutOfRange(Check check) {
        check.outOfRange("would(1, 0, -1)", x -> x.would(1, 0, -1));
        check.outOfRange("would(1, 11, 10)", x -> x.would(1, 11, 10));
        check.outOfRange("would(20, 5, MIN)", x -> x.would(20, 5, Integer.MIN_VALUE));
        check.outOfRange("would(20, 5, MAX)", x -> x.would(20, 5, Integer.MAX_VALUE));
    }

    @Said(under = "Promise 17", value = OUT_OF_RANGE)
    static void refusesThemAheadOfTheLastYear(Check check) {
        check.outOfRange(Scene.LATE, "would(20, 0, 10) in the year 41", x -> x.would(20, 0, 10));
        check.outOfRange(Scene.LATE, "would(21, 0, 0) in the year 41", x -> x.would(21, 0, 0));
        check.outOfRange(Scene.LAST, "would(1, 0, -1) in the year 60", x -> x.would(1, 0, -1));
        check.outOfRange(Scene.LAST, "would(0, 0, 0) in the year 60", x -> x.would(0, 0, 0));
    }

    @Said(under = "Promise 17", value = TOO_LATE)
    static void foreseesTheYear60(Check check) {
        isWhatComes(check, Scene.LATE, 19);
        IceLand x = new IceLand();
        x.pass(20);
        x.pass(20);
        check.same("would(20, 0, 0) in the year 40", x.would(20, 0, 0), 100);
        x.pass(19);
        check.same("would(1, 0, 0) in the year 59", x.would(1, 0, 0), 100);
    }

    @Said(under = "Promise 17", value = TOO_LATE)
    static void refusesToForeseeTheYear61(Check check) {
        check.notNow(Scene.LATE, "would(20, 0, 0) in the year 41", x -> x.would(20, 0, 0));
        check.notNow(Scene.LAST, "would(1, 0, 0) in the year 60", x -> x.would(1, 0, 0));
        check.notNow(Scene.LAST, "would(20, 11, 9) in the year 60", x -> x.would(20, 11, 9));
    }
}
