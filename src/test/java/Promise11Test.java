/** Promise 11: common. */
public final class Promise11Test {
    public static void main(String[] args) {
        Check check = new Check("Promise 11");
        IceLand x = new IceLand();
        x.ice(2, 1);
        x.ice(7, 1);
        check.same("no ash", x.common(2, 7), 0);
        x.ash();
        check.same("year 0", x.common(2, 7), 1);
        x.pass(1);
        x.ash();
        x.ice(2, 1);
        check.same("year 1 in one core alone", x.common(2, 7), 1);
        check.same("year 1, the other way", x.common(7, 2), 1);
        check.same("a core and itself", x.common(2, 2), 2);
        check.same("the other core and itself", x.common(7, 7), 1);
        x.pass(1);
        x.ice(2, 1);
        x.ice(7, 1);
        check.same("year 2 without ash", x.common(2, 7), 1);
        x.ash();
        check.same("ash may be told after the ice", x.common(2, 7), 2);
        check.same("an empty core", x.common(2, 3), 0);
        check.same("two empty cores", x.common(11, 3), 0);
        // The warmth of each is 60 less half of 103 or less: 9 times 3, a tenth of that.
        x.climate(60, 0, 3);
        x.pass(1);
        check.same("the latest layers melt off, and of cell 7 the last", x.common(2, 2), 1);
        check.same("molten layers are left out", x.common(7, 7), 0);
        check.noCell("common(-1, 0)", () -> x.common(-1, 0));
        check.noCell("common(0, -1)", () -> x.common(0, -1));
        check.noCell("common(12, 0)", () -> x.common(12, 0));
        check.noCell("common(0, 12)", () -> x.common(0, 12));
        check.noCell("common(MIN, MAX)", () -> x.common(Integer.MIN_VALUE, Integer.MAX_VALUE));
        check.end();
    }
}
