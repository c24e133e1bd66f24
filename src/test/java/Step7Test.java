/** Step 7 of a year: the front and its moraine. */
public final class Step7Test {
    public static void main(String[] args) {
        Check check = new Check("Step 7");
        IceLand x = new IceLand();
        x.ice(2, 1);
        x.ice(5, 2);
        moraine(check, x, "at first", 0, 0, 0);
        x.pass(1);
        moraine(check, x, "year 1", 0, 1, 0);
        x.pass(2);
        moraine(check, x, "year 3", 0, 3, 0);
        x.ice(11, 1);
        moraine(check, x, "ice alone makes none", 0, 3, 0);
        x.pass(1);
        moraine(check, x, "year 4", 0, 3, 1);
        x.climate(300, 0, 9);
        x.pass(2);
        moraine(check, x, "without ice", 0, 3, 1);
        x.climate(0, 0, 0);
        x.ice(2, 1);
        x.pass(1);
        moraine(check, x, "year 7", 1, 3, 1);
        for (int year = 1; year <= 7; year++) {
            check.same("front(" + year + ")", x.front(year), new int[] {0, 5, 5, 5, 11, -1, -1, 2}[year]);
        }
        IceLand y = new IceLand();
        y.ice(0, 1);
        y.pass(2);
        check.same("moraine of the head", y.cellIs(0, 4), 2);
        check.end();
    }

    private static void moraine(Check check, IceLand x, String when, int of2, int of5, int of11) {
        for (int cell = 0; cell < 12; cell++) {
            int due = cell == 2 ? of2 : cell == 5 ? of5 : cell == 11 ? of11 : 0;
            check.same(when + ": moraine of " + cell, x.cellIs(cell, 4), due);
        }
    }
}
