/** Promise 19: miss. */
public final class Promise19Test {
    public static void main(String[] args) {
        Check check = new Check("Promise 19");
        IceLand x = new IceLand();
        check.noCell("miss(0) ahead of any", () -> x.miss(0));
        x.ice(3, 3);
        check.same("forecast(2)", x.forecast(2), 3);
        check.same("forecast(1)", x.forecast(1), 3);
        check.same("not passed", x.miss(0), IceLand.NONE);
        check.same("not passed either", x.miss(1), IceLand.NONE);
        x.ice(8, 2);
        x.pass(1);
        check.same("one of two has passed", x.miss(0), IceLand.NONE);
        check.same("more came than was forecast", x.miss(1), 2);
        x.ice(9, 2);
        check.same("whatever is told later", x.miss(1), 2);
        x.climate(300, 0, 9);
        x.pass(1);
        check.same("less came than was forecast", x.miss(0), 3);
        x.climate(0, 0, 0);
        x.ice(0, 999);
        x.pass(3);
        check.same("the miss stays", x.miss(0), 3);
        check.same("the other miss stays", x.miss(1), 2);
        int expected = x.forecast(20);
        check.same("forecast of a later year", expected, 999);
        x.pass(19);
        check.same("a year ahead", x.miss(2), IceLand.NONE);
        x.pass(1);
        check.same("just as forecast", x.miss(2), 0);
        check.noCell("miss(-1)", () -> x.miss(-1));
        check.noCell("miss(3)", () -> x.miss(3));
        check.noCell("miss(10)", () -> x.miss(10));
        check.noCell("miss(MIN)", () -> x.miss(Integer.MIN_VALUE));
        check.noCell("miss(MAX)", () -> x.miss(Integer.MAX_VALUE));
        check.end();
    }
}
