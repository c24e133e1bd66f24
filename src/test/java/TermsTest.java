/** What the document says ahead of the cells: calls, exceptions and divisions. */
public final class TermsTest {
    private static final String FIRST_LISTED = "A method throws IndexOutOfBoundsException if there is no such cell, "
        + "flood or forecast, IllegalArgumentException if another argument is out of range, and IllegalStateException "
        + "as it documents; if several apply, the one that it lists first is thrown.";
    private static final String NOTHING = "A call that throws changes nothing.";
    private static final String ROUNDED = "Divisions are rounded down, also below 0: to the next lesser whole number.";

    public static void main(String[] args) {
        Check.run(TermsTest.class);
    }

    @Said(under = "What it is", value = "An object is used for at most 512 calls after it has been made; "
        + "what later calls answer is free.")
    static void the512thCallIsAnswered(Check check) {
        IceLand x = new IceLand();
        for (int call = 1; call <= 450; call++) {
            x.ice(call % 12, 1);
        }
        for (int call = 451; call <= 510; call++) {
            x.pass(1);
        }
        check.same("call 511", x.total(0), 450);
        check.same("call 512", x.iceAnew(), 450);
    }

    @Said(under = "What it is", value = "An object is used for at most 512 calls after it has been made; "
        + "what later calls answer is free.")
    static void the512thCallIsAnsweredBehindRefusedOnes(Check check) {
        IceLand x = new IceLand();
        int refused = 0;
        for (int call = 1; call <= 511; call++) {
            refused += isRefused(x, y -> y.miss(0)) ? 1 : 0;
        }
        check.same("refused", refused, 511);
        check.same("call 512", x.pass(1), 1);
    }

    @Said(under = "Terms", value = FIRST_LISTED)
    static void noSuchCellIsAheadOfAnArgument(Check check) {
        check.noSuch("land(12, 501)", x -> x.land(12, 501));
        check.noSuch("ice(12, 1000)", x -> x.ice(12, 1000));
        check.noSuch("cellIs(12, 10)", x -> x.cellIs(12, 10));
        check.noSuch("layer(12, 61)", x -> x.layer(12, 61));
        check.noSuch("yearAt(12, -1)", x -> x.yearAt(12, -1));
        check.noSuch("would(21, 12, 10)", x -> x.would(21, 12, 10));
    }

    @Said(under = "Terms", value = FIRST_LISTED)
    static void noSuchFloodIsAheadOfAnArgument(Check check) {
        check.noSuch("flood(floods(), 3)", x -> x.flood(x.floods(), 3));
    }

    @Said(under = "Terms", value = FIRST_LISTED)
    static void noSuchCellIsAheadOfTheState(Check check) {
        check.noSuch(Scene.LAST, "would(1, 12, 0) in the year 60", x -> x.would(1, 12, 0));
    }

    @Said(under = "Terms", value = FIRST_LISTED)
    static void anArgumentIsAheadOfTheState(Check check) {
        check.outOfRange(Scene.FULL, "land(0, 501) on ice", x -> x.land(0, 501));
        check.outOfRange(Scene.FULL, "ice(0, 1000) upon 9999", x -> x.ice(0, 1000));
        check.outOfRange(Scene.LAST, "pass(21) in the year 60", x -> x.pass(21));
        check.outOfRange(Scene.LAST, "would(21, 0, 0) in the year 60", x -> x.would(21, 0, 0));
        check.outOfRange(Scene.LAST, "would(1, 0, 10) in the year 60", x -> x.would(1, 0, 10));
        check.outOfRange(Scene.LAST, "forecast(21) in the year 60", x -> x.forecast(21));
        check.outOfRange(Scene.FULL, "forecast(21) where there are 10", x -> x.forecast(21));
    }

    /** One call of each kind that is refused in each scene; each is held by its own promise's test too. */
    private static final Check.Call[] REFUSED = {
        x -> x.land(12, 5), x -> x.land(5, 501), x -> x.sea(501), x -> x.climate(301, 20, 9),
        x -> x.climate(-300, 21, 9), x -> x.climate(-300, 20, 10), x -> x.ice(12, 5), x -> x.ice(5, 1000),
        x -> x.pass(21), x -> x.cellIs(12, 0), x -> x.cellIs(0, 10), x -> x.layer(12, 0), x -> x.layer(0, 61),
        x -> x.yearAt(12, 0), x -> x.yearAt(0, -1), x -> x.common(0, 12), x -> x.flood(-1, 0), x -> x.front(61),
        x -> x.total(6), x -> x.would(1, 12, 0), x -> x.would(21, 0, 0), x -> x.would(1, 0, 10),
        x -> x.forecast(21), x -> x.miss(-1)};

    @Said(under = "Terms", value = NOTHING)
    static void manyRefusedCallsChangeNothing(Check check) {
        for (Scene scene : Scene.values()) {
            for (Question question : Question.values()) {
                IceLand x = scene.make();
                int refused = 0;
                for (Check.Call call : REFUSED) {
                    refused += isRefused(x, call) ? 1 : 0;
                }
                check.same(scene + ": refused calls", refused, REFUSED.length);
                check.same(scene + ": of " + question + " they change nothing", question.askedOf(x),
                    question.askedAtFirst(scene));
            }
        }
    }

    private static boolean isRefused(IceLand x, Check.Call call) {
        try {
            call.on(x);
            return false;
        } catch (IndexOutOfBoundsException | IllegalArgumentException e) {
            return true;
        }
    }

    /** All beds are -4, with a unit of ice on each: a surface of -3, half of which is -2. */
    private static IceLand belowZero() {
        IceLand x = new IceLand();
        for (int cell = 0; cell < 12; cell++) {
            x.land(cell, 0);
            x.ice(cell, 15);
        }
        x.pass(5);
        x.climate(300, 0, 9);
        x.pass(1);
        for (int cell = 0; cell < 12; cell++) {
            x.ice(cell, 1);
        }
        return x;
    }

    @Said(under = "Terms", value = ROUNDED)
    static void halfBelow0IsRoundedDown(Check check) {
        check.same("surface", belowZero().cellIs(6, 3), -3);
        IceLand even = belowZero();
        even.climate(-2, 5, 9);
        even.pass(1);
        check.same("-2 less -2: no snow", even.total(4), 0);
        check.same("-2 less -2: no melt but the one ahead", even.total(2), 180);
        IceLand colder = belowZero();
        colder.climate(-3, 5, 9);
        colder.pass(1);
        check.same("-3 less -2: snow, in the sea too, where ice is", colder.total(4), 60);
        IceLand warmer = belowZero();
        warmer.climate(0, 5, 9);
        warmer.pass(1);
        check.same("0 less -2: 9 times 2, a tenth of that melts", warmer.total(2), 192);
    }

    @Said(under = "Terms", value = ROUNDED)
    static void halfAbove0IsRoundedDown(Check check) {
        IceLand x = new IceLand();
        x.land(3, 101);
        x.climate(50, 5, 0);
        x.pass(1);
        check.cells("50 less half of 101", x, 1, 2, 0, 0, 0);
        x.climate(49, 5, 0);
        x.pass(1);
        check.cells("49 less half of 101", x, 1, 2, 5, 5, 5);
    }

    @Said(under = "Terms", value = ROUNDED)
    static void theOtherPartsAreRoundedDown(Check check) {
        IceLand x = new IceLand();
        x.ice(5, 3);
        x.climate(54, 0, 6);
        x.pass(1);
        check.same("a tenth of 18 melts", x.cellIs(5, 1), 2);
        IceLand y = new IceLand();
        y.ice(5, 5);
        y.pass(2);
        check.same("a third of 5", y.cellIs(5, 0), 99);
        IceLand z = new IceLand();
        z.land(0, 500);
        z.ice(0, 23);
        z.pass(1);
        check.same("a fourth of 23", z.cellIs(1, 1), 5);
        IceLand w = new IceLand();
        w.ice(0, 28);
        w.pass(1);
        check.same("28 times 28 by 200", w.cellIs(1, 1), 3);
    }
}
