/** Promise 15: total. */
public final class Promise15Test {
    public static void main(String[] args) {
        Check check = new Check("Promise 15");
        IceLand x = new IceLand();
        x.ice(3, 3);
        x.ice(11, 2);
        totals(check, x, "told", 5, 0, 0, 0, 0, 5);
        x.climate(49, 1, 0);
        x.pass(1);
        // The surfaces are 103 (3), 102 (11) and 100, so that all are cold.
        totals(check, x, "snow", 17, 0, 0, 0, 12, 5);
        // The beds of 3 and 11 sank by 1; the warmth is 9 there, and 10 elsewhere: one unit of each cell melts.
        x.climate(60, 0, 2);
        x.pass(1);
        totals(check, x, "melt, that of cell 11 to the sea", 5, 11, 1, 0, 12, 5);
        IceLand y = new IceLand();
        y.sea(200);
        y.ice(11, 3);
        y.pass(1);
        totals(check, y, "bergs", 0, 0, 0, 3, 0, 3);
        IceLand z = Lakes.between(20, 20, 6);
        totals(check, z, "tongues", 88, 0, 0, 0, 0, 88);
        z.pass(1);
        totals(check, z, "lake", 70, 18, 0, 0, 0, 88);
        IceLand w = Lakes.between(19, 20, 6);
        w.pass(1);
        totals(check, w, "flood", 69, 0, 18, 0, 0, 87);
        check.outOfRange("total(-1)", () -> x.total(-1));
        check.outOfRange("total(6)", () -> x.total(6));
        check.outOfRange("total(MIN)", () -> x.total(Integer.MIN_VALUE));
        check.outOfRange("total(MAX)", () -> x.total(Integer.MAX_VALUE));
        check.end();
    }

    private static void totals(Check check, IceLand x, String when, int... due) {
        for (int what = 0; what <= 5; what++) {
            check.same(when + ": total(" + what + ")", x.total(what), due[what]);
        }
        check.same(when + ": iceAnew()", x.iceAnew(), due[0]);
    }
}
