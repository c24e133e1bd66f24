/** Promise 6: ash. */
public final class Promise06Test {
    public static void main(String[] args) {
        Check.run(Promise06Test.class);
    }

    @Said(under = "Promise 6", value = "Tells that the year of now has ASH.")
    static void isOfTheYearOfNow(Check check) {
        IceLand x = new IceLand();
        x.ice(3, 2);
        x.pass(1);
        x.ice(3, 2);
        x.ash();
        check.same("the year 1 alone", x.common(3, 3), 1);
        x.pass(1);
        x.ice(3, 2);
        check.same("not the year 2", x.common(3, 3), 1);
    }

    @Said(under = "Promise 6", value = "Tells that the year of now has ASH.")
    static void ofTheFirstYearAndOfTheLast(Check check) {
        IceLand x = new IceLand();
        x.ice(3, 2);
        check.same("ash() in the year 0", x.ash(), false);
        check.same("year 0", x.common(3, 3), 1);
        x.pass(20);
        x.pass(20);
        x.pass(20);
        check.same("ash() in the year 60", x.ash(), false);
        check.same("no ice of the year 60 yet", x.common(3, 3), 1);
        x.ice(3, 1);
        check.same("years 0 and 60", x.common(3, 3), 2);
        check.same("ash() again in the year 60", x.ash(), true);
    }

    @Said(under = "Promise 6", value = "Returns whether it had.")
    static void answersWhetherItHad(Check check) {
        IceLand x = new IceLand();
        check.same("ash() first", x.ash(), false);
        check.same("ash() again", x.ash(), true);
        check.same("ash() a third time", x.ash(), true);
        x.pass(1);
        check.same("ash() in a new year", x.ash(), false);
        check.same("ash() again in it", x.ash(), true);
    }

    @Said(under = "Promise 6", value = "Returns whether it had.")
    static void toldTwiceItCountsOnce(Check check) {
        IceLand x = new IceLand();
        x.ice(3, 2);
        x.ash();
        x.ash();
        check.same("one year", x.common(3, 3), 1);
    }
}
