/** Promise 7: pass; the steps of a year have tests of their own. */
public final class Promise07Test {
    public static void main(String[] args) {
        Check check = new Check("Promise 7");
        counts(check);
        passesEachYear(check);
        check.end();
    }

    private static void counts(Check check) {
        IceLand x = new IceLand();
        check.same("pass(1)", x.pass(1), 1);
        check.same("pass(2)", x.pass(2), 3);
        check.outOfRange("pass(0)", () -> x.pass(0));
        check.outOfRange("pass(-1)", () -> x.pass(-1));
        check.outOfRange("pass(21)", () -> x.pass(21));
        check.outOfRange("pass(MAX)", () -> x.pass(Integer.MAX_VALUE));
        check.outOfRange("pass(MIN)", () -> x.pass(Integer.MIN_VALUE));
        check.same("pass(20)", x.pass(20), 23);
        check.same("pass(20) again", x.pass(20), 43);
        check.notNow("pass(18)", () -> x.pass(18));
        check.outOfRange("pass(21) late", () -> x.pass(21));
        check.same("the refused call passed none", x.front(43), IceLand.NONE);
        check.outOfRange("front(44)", () -> x.front(44));
        check.same("pass(17)", x.pass(17), 60);
        check.notNow("pass(1)", () -> x.pass(1));
        check.outOfRange("pass(0) late", () -> x.pass(0));
        check.same("front(60)", x.front(60), IceLand.NONE);
    }

    /** So many years at once are as good as one by one. */
    private static void passesEachYear(Check check) {
        IceLand once = new IceLand();
        IceLand singly = new IceLand();
        for (IceLand x : new IceLand[] {once, singly}) {
            x.land(0, 400);
            x.land(1, 300);
            x.ice(1, 200);
            x.climate(60, 5, 4);
        }
        once.pass(9);
        for (int i = 0; i < 9; i++) {
            singly.pass(1);
        }
        check.same("9 years", Check.stateOf(once), Check.stateOf(singly));
    }
}
