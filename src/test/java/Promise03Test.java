/** Promise 3: sea. */
public final class Promise03Test {
    public static void main(String[] args) {
        Check check = new Check("Promise 3");
        IceLand x = new IceLand();
        check.same("sea(100)", x.sea(100), 0);
        check.same("a bed at the level does not stand in it", x.cellIs(0, 7), 0);
        check.same("sea(101)", x.sea(101), 100);
        check.same("a bed below it does", x.cellIs(0, 7), 1);
        check.outOfRange("sea(-1)", () -> x.sea(-1));
        check.outOfRange("sea(501)", () -> x.sea(501));
        check.outOfRange("sea(MIN)", () -> x.sea(Integer.MIN_VALUE));
        check.outOfRange("sea(MAX)", () -> x.sea(Integer.MAX_VALUE));
        check.same("sea(500)", x.sea(500), 101);
        check.same("sea(0)", x.sea(0), 500);
        check.same("sea(0) again", x.sea(0), 0);
        check.same("land rises from it at once", x.cellIs(0, 7), 0);
        x.ice(0, 3);
        x.sea(7);
        x.pass(2);
        check.same("the level stays over years", x.sea(8), 7);
        check.end();
    }
}
