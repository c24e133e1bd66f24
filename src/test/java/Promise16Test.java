/** Promise 16: iceAnew. */
public final class Promise16Test {
    private static final String ANEW = "Returns the ICE that there is, found by what fell and was told, "
        + "less what became WATER and BERGS.";

    public static void main(String[] args) {
        Check.run(Promise16Test.class);
    }

    @Said(under = "Promise 16", value = ANEW)
    static void isNoneAtFirst(Check check) {
        check.same("of a new object", new IceLand().iceAnew(), 0);
    }

    @Said(under = "Promise 16", value = ANEW)
    static void isWhatFellAndWasTold(Check check) {
        IceLand x = new IceLand();
        x.ice(0, 999);
        check.same("told", x.iceAnew(), 999);
        x.climate(0, 2, 0);
        x.pass(1);
        check.same("and fallen", x.iceAnew(), 999 + 24);
    }

    @Said(under = "Promise 16", value = ANEW)
    static void isLessByWater(Check check) {
        IceLand x = Lakes.between(20, 20, 6);
        x.pass(1);
        check.same("with the water there", x.iceAnew(), 70);
        IceLand y = Lakes.between(19, 20, 6);
        y.pass(1);
        check.same("with the water in the sea", y.iceAnew(), 69);
    }

    @Said(under = "Promise 16", value = ANEW)
    static void isLessByBergs(Check check) {
        IceLand x = new IceLand();
        x.sea(200);
        x.ice(11, 3);
        x.pass(1);
        check.same("all calved", x.iceAnew(), 0);
    }

    @Said(under = "Promise 16", value = ANEW)
    static void isNotLessByARefusedCall(Check check) {
        IceLand x = Scene.FULL.make();
        check.notNow(x, "ice(0, 999) upon 9999", y -> y.ice(0, 999));
        check.same("three full cells", x.iceAnew(), 29997);
    }

    @Said(under = "Promise 16", value = ANEW)
    static void isTheIceInAllScenes(Check check) {
        for (Scene scene : Scene.values()) {
            IceLand x = scene.make();
            check.same(scene + "", x.iceAnew(), x.total(0));
        }
    }

    @Said(under = "Promise 16", value = ANEW)
    static void isTheIceInEachYear(Check check) {
        IceLand x = new IceLand();
        x.ice(0, 999);
        x.sea(90);
        x.land(11, 0);
        x.land(10, 20);
        x.land(4, 500);
        x.land(5, 500);
        for (int year = 1; year <= 60; year++) {
            x.climate(year % 7 == 0 ? 80 : 30, 2, 3);
            x.pass(1);
            check.same("behind the year " + year, x.iceAnew(), x.total(0));
        }
        check.same("some calved", x.total(3) > 0, true);
        check.same("some melted", x.total(1) + x.total(2) > 0, true);
        check.same("some fell", x.total(4) > 0, true);
    }
}
