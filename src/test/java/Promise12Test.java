/** Promise 12: floods. */
public final class Promise12Test {
    public static void main(String[] args) {
        Check check = new Check("Promise 12");
        IceLand x = new IceLand();
        check.same("none at first", x.floods(), 0);
        Lakes.addBetween(x, 2, 19, 20, 6);
        Lakes.addBetween(x, 8, 20, 19, 6);
        Lakes.meltOf(x, 6);
        check.same("none foreseen by asking", x.would(3, 2, 2), 0);
        check.same("none noted by asking", x.floods(), 0);
        x.forecast(3);
        check.same("none noted by a forecast", x.floods(), 0);
        x.pass(1);
        check.same("two in one year", x.floods(), 2);
        x.climate(0, 0, 0);
        x.pass(3);
        check.same("none later", x.floods(), 2);
        check.end();
    }
}
