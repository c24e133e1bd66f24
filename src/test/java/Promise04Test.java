/** Promise 4: climate. */
public final class Promise04Test {
    public static void main(String[] args) {
        Check check = new Check("Promise 4");
        fromTheNextYearOn(check);
        reachesItsBounds(check);
        refuses(check);
        check.end();
    }

    private static void fromTheNextYearOn(Check check) {
        IceLand x = new IceLand();
        x.climate(0, 2, 0);
        check.same("nothing falls as it is told", x.total(4), 0);
        x.pass(1);
        check.same("snow", x.total(4), 24);
        x.pass(1);
        check.same("it stays", x.total(4), 48);
        x.climate(0, 1, 0);
        x.pass(1);
        check.same("less snow", x.total(4), 60);
    }

    private static void reachesItsBounds(Check check) {
        IceLand cold = new IceLand();
        cold.climate(-300, 20, 9);
        cold.pass(1);
        check.same("much snow", cold.total(4), 240);
        check.same("none molten", cold.total(1) + cold.total(2), 0);
        IceLand warm = new IceLand();
        warm.climate(300, 20, 9);
        // The warmth is 300 less half of 400: 100, times 9, a tenth of that.
        warm.land(11, 300);
        warm.ice(11, 100);
        warm.land(10, 500);
        warm.pass(1);
        check.same("much melt", warm.total(2), 90);
        check.same("no snow", warm.total(4), 0);
        warm.climate(-300, 0, 0);
        warm.pass(1);
        check.same("no melt", warm.total(2), 90);
    }

    private static void refuses(Check check) {
        IceLand x = new IceLand();
        x.ice(11, 3);
        x.climate(52, 1, 1);
        check.outOfRange("climate(-301, 0, 0)", () -> x.climate(-301, 0, 0));
        check.outOfRange("climate(301, 0, 0)", () -> x.climate(301, 0, 0));
        check.outOfRange("climate(0, -1, 0)", () -> x.climate(0, -1, 0));
        check.outOfRange("climate(0, 21, 0)", () -> x.climate(0, 21, 0));
        check.outOfRange("climate(0, 0, -1)", () -> x.climate(0, 0, -1));
        check.outOfRange("climate(0, 0, 10)", () -> x.climate(0, 0, 10));
        check.outOfRange("climate(-300, 20, MAX)", () -> x.climate(-300, 20, Integer.MAX_VALUE));
        check.outOfRange("climate(MIN, 0, 0)", () -> x.climate(Integer.MIN_VALUE, 0, 0));
        x.pass(1);
        check.same("refused calls tell nothing: no snow", x.total(4), 0);
        check.same("refused calls tell nothing: no melt", x.total(2), 0);
        x.climate(0, 1, 0);
        check.outOfRange("climate(-300, 20, 10)", () -> x.climate(-300, 20, 10));
        check.outOfRange("climate(300, 21, 9)", () -> x.climate(300, 21, 9));
        x.pass(1);
        check.same("the climate told stands", x.total(4), 12);
    }
}
