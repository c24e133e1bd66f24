/** Promise 16: iceAnew. */
public final class Promise16Test {
    public static void main(String[] args) {
        Check check = new Check("Promise 16");
        check.same("at first", new IceLand().iceAnew(), 0);
        IceLand x = new IceLand();
        x.ice(0, 999);
        check.same("told", x.iceAnew(), 999);
        x.sea(90);
        x.land(11, 0);
        x.land(10, 20);
        x.land(4, 500);
        x.land(5, 500);
        boolean calved = false;
        boolean molten = false;
        for (int year = 1; year <= 60; year++) {
            x.climate(year % 7 == 0 ? 80 : 30, 2, 3);
            x.pass(1);
            check.same("behind the year " + year, x.iceAnew(), x.total(0));
            calved = calved || x.total(3) > 0;
            molten = molten || x.total(1) + x.total(2) > 0;
        }
        check.same("some calved", calved, true);
        check.same("some melted", molten, true);
        check.same("some fell", x.total(4) > 0, true);
        check.end();
    }
}
