/** Promise 5: ice. */
public final class Promise05Test {
    public static void main(String[] args) {
        Check check = new Check("Promise 5");
        tells(check);
        fillsUp(check);
        refuses(check);
        check.end();
    }

    private static void tells(Check check) {
        IceLand x = new IceLand();
        check.same("ice(3, 1)", x.ice(3, 1), 1);
        check.same("ice(3, 2)", x.ice(3, 2), 3);
        check.same("ice(4, 3)", x.ice(4, 3), 3);
        check.same("layer of the year 0", x.layer(3, 0), 3);
        x.pass(1);
        check.same("ice(3, 999)", x.ice(3, 999), 1002);
        check.same("layer of the year 0 stays", x.layer(3, 0), 3);
        check.same("layer of the year 1", x.layer(3, 1), 999);
        check.same("told", x.total(5), 1005);
        check.same("surface", x.cellIs(3, 3), 99 + 1002);
        check.same("snow of that year is in the same layer", snowUpon(), 7);
    }

    private static int snowUpon() {
        IceLand x = new IceLand();
        x.climate(0, 4, 0);
        x.pass(1);
        x.ice(6, 3);
        return x.layer(6, 1);
    }

    private static void fillsUp(Check check) {
        IceLand x = new IceLand();
        for (int i = 1; i <= 10; i++) {
            check.same("ice(0, 999)", x.ice(0, 999), 999 * i);
        }
        check.notNow("ice(0, 10)", () -> x.ice(0, 10));
        check.same("ice(0, 9)", x.ice(0, 9), 9999);
        check.notNow("ice(0, 1)", () -> x.ice(0, 1));
        check.outOfRange("ice(0, 1000) upon 9999", () -> x.ice(0, 1000));
        check.same("ice stays", x.cellIs(0, 1), 9999);
        check.same("told stays", x.total(5), 9999);
        check.same("layer stays", x.layer(0, 0), 9999);
        check.same("ice(1, 1)", x.ice(1, 1), 1);
    }

    private static void refuses(Check check) {
        IceLand x = new IceLand();
        x.ice(1, 3);
        String before = Check.stateOf(x);
        check.noCell("ice(-1, 1)", () -> x.ice(-1, 1));
        check.noCell("ice(12, 1)", () -> x.ice(12, 1));
        check.noCell("ice(12, 0)", () -> x.ice(12, 0));
        check.noCell("ice(MIN, 1)", () -> x.ice(Integer.MIN_VALUE, 1));
        check.outOfRange("ice(0, 0)", () -> x.ice(0, 0));
        check.outOfRange("ice(0, -1)", () -> x.ice(0, -1));
        check.outOfRange("ice(0, 1000)", () -> x.ice(0, 1000));
        check.outOfRange("ice(1, MAX)", () -> x.ice(1, Integer.MAX_VALUE));
        check.outOfRange("ice(1, MIN)", () -> x.ice(1, Integer.MIN_VALUE));
        check.same("refused calls change nothing", Check.stateOf(x), before);
    }
}
