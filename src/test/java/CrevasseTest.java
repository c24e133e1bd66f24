/** Crevasses, and those hidden under snow. */
public final class CrevasseTest {
    public static void main(String[] args) {
        Check check = new Check("Crevasses");
        byWhatWasGiven(check);
        byTheDifference(check);
        hidden(check);
        ofTheLatestYear(check);
        check.end();
    }

    private static IceLand heap(int ice, int snow) {
        IceLand x = new IceLand();
        x.ice(0, ice);
        x.climate(0, snow, 0);
        x.pass(1);
        return x;
    }

    private static void byWhatWasGiven(Check check) {
        marks(check, "5 units", heap(32, 0), 5, 1, 1, 0);
        marks(check, "4 units", heap(29, 0), 5, 0, 0, 0);
        IceLand x = new IceLand();
        x.ice(0, 32);
        marks(check, "ahead of the first year", x, 5, 0, 0, 0);
        x.pass(1);
        check.same("in the sea or not", x.cellIs(0, 5), 1);
    }

    private static void byTheDifference(Check check) {
        IceLand x = new IceLand();
        x.ice(0, 52);
        x.ice(1, 32);
        x.pass(1);
        // 20 times 52 by 200 and 32 times 32 by 200 are 5 each.
        check.same("ice of 1 is as before", x.cellIs(1, 1), 32);
        marks(check, "5 come and 5 go", x, 5, 1, 0, 1);
        IceLand y = new IceLand();
        y.ice(5, 26);
        y.pass(1);
        check.same("3 to either side", y.cellIs(5, 1), 20);
        check.same("6 in all", y.cellIs(5, 5), 1);
        check.same("3 to one", y.cellIs(4, 5), 0);
        check.same("3 to the other", y.cellIs(6, 5), 0);
        IceLand z = new IceLand();
        z.ice(4, 26);
        z.ice(6, 26);
        z.pass(1);
        check.same("3 from either side", z.cellIs(5, 1), 6);
        check.same("6 in all come", z.cellIs(5, 5), 1);
    }

    private static void hidden(Check check) {
        IceLand three = heap(31, 3);
        marks(check, "5 units under 3 of snow", three, 5, 1, 1, 0);
        marks(check, "hidden under 3", three, 6, 1, 1, 0);
        IceLand two = heap(31, 2);
        marks(check, "5 units under 2 of snow", two, 5, 1, 1, 0);
        marks(check, "not hidden under 2", two, 6, 0, 0, 0);
        three.climate(0, 0, 0);
        marks(check, "the climate told later does not matter", three, 6, 1, 1, 0);
        two.climate(0, 9, 0);
        marks(check, "nor does this", two, 6, 0, 0, 0);
        // Upon a surface of 160 the warmth is 90 less 80, so that no snow falls; upon 220 it is 90 less 110.
        IceLand warm = new IceLand();
        warm.ice(0, 60);
        warm.land(1, 160);
        warm.ice(1, 60);
        warm.climate(90, 9, 0);
        warm.pass(1);
        marks(check, "a warm head", warm, 5, 1, 1, 1);
        marks(check, "hidden where it was cold", warm, 6, 0, 1, 0);
        // In the sea snow falls upon ice alone.
        IceLand wet = new IceLand();
        wet.land(0, 200);
        wet.ice(0, 32);
        wet.sea(150);
        wet.climate(0, 9, 0);
        wet.pass(1);
        check.same("crevasse of 1 in the sea", wet.cellIs(1, 5), 1);
        check.same("no snow fell on it", wet.cellIs(1, 6), 0);
        check.same("hidden crevasse of 0", wet.cellIs(0, 6), 1);
    }

    private static void ofTheLatestYear(Check check) {
        IceLand x = heap(32, 0);
        x.climate(0, 3, 0);
        x.pass(1);
        // 30 and 8 upon beds of 99: 22 times 30 by 200 is 3.
        marks(check, "less flows in the second year", x, 5, 0, 0, 0);
        marks(check, "none is hidden", x, 6, 0, 0, 0);
        // 19 of 78 units go from 0 to 1 in the second year, and 3 from there.
        IceLand later = heap(100, 0);
        marks(check, "bare in the first year", later, 6, 0, 0, 0);
        later.climate(0, 3, 0);
        later.pass(1);
        marks(check, "crevasses in the second", later, 5, 1, 1, 0);
        marks(check, "hidden in the second", later, 6, 1, 1, 0);
        IceLand earlier = heap(100, 3);
        marks(check, "hidden in the first year", earlier, 6, 1, 1, 0);
        earlier.climate(0, 0, 0);
        earlier.pass(1);
        marks(check, "crevasses still", earlier, 5, 1, 1, 0);
        marks(check, "bare in the second", earlier, 6, 0, 0, 0);
        IceLand warmer = heap(100, 3);
        warmer.climate(300, 3, 0);
        warmer.pass(1);
        marks(check, "crevasses in a warm second year", warmer, 5, 1, 1, 0);
        marks(check, "bare in a warm second year", warmer, 6, 0, 0, 0);
    }

    private static void marks(Check check, String when, IceLand x, int what, int... due) {
        for (int cell = 0; cell < due.length; cell++) {
            check.same(when + ": cellIs(" + cell + ", " + what + ")", x.cellIs(cell, what), due[cell]);
        }
    }
}
