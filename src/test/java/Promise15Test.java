/** Promise 15: total. */
public final class Promise15Test {
    private static final String WHAT = "- `what`: 0 the ICE that there is, 1 the WATER that there is, "
        + "2 the WATER that came to the sea, 3 the BERGS, 4 the SNOW that fell, 5 the ICE that was told";

    public static void main(String[] args) {
        Check.run(Promise15Test.class);
    }

    private static void totals(Check check, IceLand x, String when, int... due) {
        for (int what = 0; what <= 5; what++) {
            check.same(when + ": total(" + what + ")", x.total(what), due[what]);
        }
    }

    @Said(under = "Promise 15", value = {"Tells a sum of all.", WHAT})
    static void areNothingAtFirst(Check check) {
        totals(check, new IceLand(), "a new object", 0, 0, 0, 0, 0, 0);
    }

    @Said(under = "Promise 15", value = {"Tells a sum of all.", WHAT})
    static void sumFromTheHeadToTheEnd(Check check) {
        IceLand x = new IceLand();
        x.ice(0, 3);
        x.ice(11, 2);
        totals(check, x, "told", 5, 0, 0, 0, 0, 5);
        x.climate(49, 1, 0);
        x.pass(1);
        // The surfaces are 103 (0), 102 (11) and 100, so that all are cold.
        totals(check, x, "snow", 17, 0, 0, 0, 12, 5);
        // The beds of 0 and 11 sank by 1; the warmth is 9 there, and 10 elsewhere: one unit of each cell melts.
        x.climate(60, 0, 2);
        x.pass(1);
        totals(check, x, "melt, that of cell 11 to the sea", 5, 11, 1, 0, 12, 5);
    }

    @Said(under = "Promise 15", value = WHAT)
    static void waterOfTheHeadIsThere(Check check) {
        IceLand x = new IceLand();
        x.ice(0, 3);
        x.climate(300, 0, 9);
        x.pass(1);
        totals(check, x, "a lake in the head", 0, 3, 0, 0, 0, 3);
        x.land(1, 90);
        x.ice(10, 2);
        x.pass(1);
        totals(check, x, "and one in cell 10", 0, 5, 0, 0, 0, 5);
    }

    @Said(under = "Promise 15", value = WHAT)
    static void bergsAreNoWaterOfTheSea(Check check) {
        IceLand x = new IceLand();
        x.sea(200);
        x.ice(11, 3);
        x.pass(1);
        totals(check, x, "bergs", 0, 0, 0, 3, 0, 3);
    }

    @Said(under = "Promise 15", value = WHAT)
    static void whatBreaksOutComesToTheSea(Check check) {
        IceLand x = Lakes.between(20, 20, 6);
        totals(check, x, "tongues", 88, 0, 0, 0, 0, 88);
        x.pass(1);
        totals(check, x, "lake", 70, 18, 0, 0, 0, 88);
        IceLand y = Lakes.between(19, 20, 6);
        y.pass(1);
        totals(check, y, "flood", 69, 0, 18, 0, 0, 87);
    }

    @Said(under = "Promise 15", value = WHAT)
    static void sumWhatIsFull(Check check) {
        totals(check, Scene.FULL.make(), "three full cells", 29997, 0, 0, 0, 0, 29997);
        IceLand x = new IceLand();
        x.climate(-300, 20, 0);
        x.pass(20);
        x.pass(20);
        x.pass(20);
        totals(check, x, "the most snow", 14400, 0, 0, 0, 14400, 0);
    }

    @Said(under = "Promise 15", value = "Throws `IllegalArgumentException` if what is out of range")
    static void refusesAWhatOutOfRange(Check check) {
        check.outOfRange("total(-1)", x -> x.total(-1));
        check.outOfRange("total(6)", x -> x.total(6));
        check.outOfRange("total(MIN)", x -> x.total(Integer.MIN_VALUE));
        check.outOfRange("total(MAX)", x -> x.total(Integer.MAX_VALUE));
    }
}
