/** Step 6 of a year: the bed sinks and rises. */
public final class Step6Test {
    public static void main(String[] args) {
        Check check = new Check("Step 6");
        IceLand x = new IceLand();
        x.ice(3, 9);
        x.ice(6, 2);
        x.ice(9, 5);
        int[] sinking = {99, 98, 97, 97, 97};
        for (int due : sinking) {
            x.pass(1);
            check.same("bed under 9", x.cellIs(3, 0), due);
            check.same("base", x.cellIs(3, 8), 100);
            check.same("bed under 2", x.cellIs(6, 0), 100);
            check.same("bed under 5", x.cellIs(9, 0), 99);
        }
        x.climate(300, 0, 9);
        int[] rising = {98, 99, 100, 100};
        for (int due : rising) {
            x.pass(1);
            check.same("bed behind 9", x.cellIs(3, 0), due);
        }
        belowZero(check);
        ofTheSameYear(check);
        check.end();
    }

    private static void belowZero(Check check) {
        IceLand x = new IceLand();
        x.land(11, 0);
        x.ice(11, 9);
        x.pass(4);
        check.same("a bed below 0", x.cellIs(11, 0), -3);
        check.same("its surface", x.cellIs(11, 3), 6);
        check.same("its potential", x.cellIs(11, 9), 51);
        check.same("it stands in the sea", x.cellIs(11, 7), 1);
    }

    /** The bed goes by the ice that is left behind the flow and calving of the same year. */
    private static void ofTheSameYear(Check check) {
        IceLand x = new IceLand();
        x.sea(200);
        x.ice(11, 3);
        x.pass(1);
        check.same("what calved does not weigh", x.cellIs(11, 0), 100);
        IceLand y = new IceLand();
        y.ice(0, 32);
        y.pass(1);
        check.same("what came weighs", y.cellIs(1, 0), 99);
        IceLand z = new IceLand();
        z.climate(0, 3, 0);
        z.pass(1);
        check.same("what fell weighs", z.cellIs(7, 0), 99);
    }
}
