/** Promise 14: front. */
public final class Promise14Test {
    public static void main(String[] args) {
        Check check = new Check("Promise 14");
        IceLand x = new IceLand();
        x.ice(11, 1);
        check.same("front(0), whatever is told", x.front(0), IceLand.NONE);
        check.outOfRange("front(1) ahead of it", () -> x.front(1));
        x.pass(1);
        x.climate(70, 0, 1);
        x.ice(4, 2);
        check.same("front(1)", x.front(1), 11);
        x.pass(1);
        check.same("front(2)", x.front(2), 4);
        x.pass(1);
        check.same("front(3)", x.front(3), IceLand.NONE);
        check.same("front(1) stays", x.front(1), 11);
        check.same("front(0) stays", x.front(0), IceLand.NONE);
        check.outOfRange("front(-1)", () -> x.front(-1));
        check.outOfRange("front(4)", () -> x.front(4));
        check.outOfRange("front(MIN)", () -> x.front(Integer.MIN_VALUE));
        check.outOfRange("front(MAX)", () -> x.front(Integer.MAX_VALUE));
        x.would(5, 0, 0);
        check.same("front(3) after asking what would be", x.front(3), IceLand.NONE);
        check.outOfRange("front(4) after asking what would be", () -> x.front(4));
        x.pass(20);
        x.pass(20);
        x.ice(0, 1);
        x.climate(0, 0, 0);
        x.pass(17);
        check.same("front(60)", x.front(60), 0);
        check.outOfRange("front(61)", () -> x.front(61));
        check.end();
    }
}
