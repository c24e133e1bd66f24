/** Promise 6: ash. */
public final class Promise06Test {
    public static void main(String[] args) {
        Check check = new Check("Promise 6");
        IceLand x = new IceLand();
        check.same("ash() first", x.ash(), false);
        check.same("ash() again", x.ash(), true);
        check.same("ash() a third time", x.ash(), true);
        x.ice(3, 2);
        check.same("one year with ash", x.common(3, 3), 1);
        x.pass(1);
        check.same("ash() in a new year", x.ash(), false);
        check.same("ash() again in it", x.ash(), true);
        x.pass(20);
        x.pass(20);
        x.pass(19);
        check.same("ash() in the year 60", x.ash(), false);
        check.same("ash() again in the year 60", x.ash(), true);
        x.ice(3, 1);
        check.same("years 0 and 60", x.common(3, 3), 2);
        check.end();
    }
}
