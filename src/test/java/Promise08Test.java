/** Promise 8: cellIs; crevasses have a test of their own. */
public final class Promise08Test {
    public static void main(String[] args) {
        Check check = new Check("Promise 8");
        tellsEach(check);
        refuses(check);
        check.end();
    }

    private static void tellsEach(Check check) {
        IceLand x = new IceLand();
        x.land(4, 60);
        x.ice(4, 13);
        x.sea(60);
        // The warmth is 46 less half of 73: 10 times 2, a tenth of that melts and stays; the bed sinks into the sea.
        x.climate(46, 0, 2);
        x.pass(1);
        int[] due = {59, 11, 2, 70, 1, 0, 0, 1, 60, 689};
        for (int what = 0; what <= 9; what++) {
            check.same("cellIs(4, " + what + ")", x.cellIs(4, what), due[what]);
        }
        int[] beside = {100, 0, 0, 100, 0, 0, 0, 0, 100, 1000};
        for (int what = 0; what <= 9; what++) {
            check.same("cellIs(5, " + what + ")", x.cellIs(5, what), beside[what]);
        }
    }

    private static void refuses(Check check) {
        IceLand x = new IceLand();
        check.noCell("cellIs(-1, 0)", () -> x.cellIs(-1, 0));
        check.noCell("cellIs(12, 0)", () -> x.cellIs(12, 0));
        check.noCell("cellIs(12, 10)", () -> x.cellIs(12, 10));
        check.noCell("cellIs(MIN, -1)", () -> x.cellIs(Integer.MIN_VALUE, -1));
        check.outOfRange("cellIs(0, -1)", () -> x.cellIs(0, -1));
        check.outOfRange("cellIs(11, 10)", () -> x.cellIs(11, 10));
        check.outOfRange("cellIs(11, MAX)", () -> x.cellIs(11, Integer.MAX_VALUE));
        check.outOfRange("cellIs(11, MIN)", () -> x.cellIs(11, Integer.MIN_VALUE));
    }
}
