/** Promise 10: yearAt. */
public final class Promise10Test {
    public static void main(String[] args) {
        Check check = new Check("Promise 10");
        IceLand x = new IceLand();
        x.ice(0, 2);
        x.pass(2);
        x.ice(0, 1);
        check.same("yearAt(0, 0)", x.yearAt(0, 0), 2);
        check.same("yearAt(0, 1)", x.yearAt(0, 1), 0);
        check.same("yearAt(0, 2)", x.yearAt(0, 2), 0);
        check.same("yearAt(0, 3)", x.yearAt(0, 3), IceLand.NONE);
        check.same("yearAt(0, MAX)", x.yearAt(0, Integer.MAX_VALUE), IceLand.NONE);
        check.same("yearAt(1, 0) of bare land", x.yearAt(1, 0), IceLand.NONE);
        x.pass(20);
        x.pass(20);
        x.pass(18);
        x.ice(0, 1);
        check.same("the year 60", x.yearAt(0, 0), 60);
        check.same("below it", x.yearAt(0, 1), 2);
        x.ice(11, 2);
        check.same("of cell 11", x.yearAt(11, 1), 60);
        check.same("below its ice", x.yearAt(11, 2), IceLand.NONE);
        check.noCell("yearAt(-1, 0)", () -> x.yearAt(-1, 0));
        check.noCell("yearAt(12, 0)", () -> x.yearAt(12, 0));
        check.noCell("yearAt(12, -1)", () -> x.yearAt(12, -1));
        check.outOfRange("yearAt(0, -1)", () -> x.yearAt(0, -1));
        check.outOfRange("yearAt(1, MIN)", () -> x.yearAt(1, Integer.MIN_VALUE));
        check.end();
    }
}
