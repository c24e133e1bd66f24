/** Promise 17: would. */
public final class Promise17Test {
    public static void main(String[] args) {
        Check check = new Check("Promise 17");
        isWhatComes(check, 1);
        isWhatComes(check, 7);
        isWhatComes(check, 20);
        nothingChanges(check);
        refuses(check);
        check.end();
    }

    private static IceLand someLand() {
        IceLand x = new IceLand();
        x.land(0, 400);
        x.land(1, 300);
        x.land(2, 20);
        x.land(10, 10);
        x.land(11, 0);
        x.sea(60);
        x.ice(1, 300);
        x.ice(2, 100);
        x.ice(11, 40);
        x.climate(70, 3, 4);
        x.pass(2);
        return x;
    }

    private static void isWhatComes(Check check, int years) {
        IceLand asked = someLand();
        IceLand passed = someLand();
        passed.pass(years);
        check.same("some of it melts", passed.total(1) + passed.total(2) > 0, true);
        for (int cell = 0; cell < 12; cell++) {
            for (int what = 0; what <= 9; what++) {
                check.same("would(" + years + ", " + cell + ", " + what + ")", asked.would(years, cell, what),
                        passed.cellIs(cell, what));
            }
        }
        asked.pass(years);
        check.same("asking changes nothing that comes", Check.stateOf(asked), Check.stateOf(passed));
    }

    private static void nothingChanges(Check check) {
        IceLand x = someLand();
        String before = Check.stateOf(x);
        x.would(20, 3, 1);
        x.would(1, 11, 5);
        check.same("asking changes nothing", Check.stateOf(x), before);
        check.same("asking twice", x.would(5, 2, 1), x.would(5, 2, 1));
        check.same("front after asking", x.front(2), x.front(2));
        check.outOfRange("front(3)", () -> x.front(3));
    }

    private static void refuses(Check check) {
        IceLand x = new IceLand();
        check.noCell("would(1, -1, 0)", () -> x.would(1, -1, 0));
        check.noCell("would(1, 12, 0)", () -> x.would(1, 12, 0));
        check.noCell("would(0, 12, 10)", () -> x.would(0, 12, 10));
        check.outOfRange("would(0, 0, 0)", () -> x.would(0, 0, 0));
        check.outOfRange("would(-1, 0, 0)", () -> x.would(-1, 0, 0));
        check.outOfRange("would(21, 0, 0)", () -> x.would(21, 0, 0));
        check.outOfRange("would(MAX, 0, 0)", () -> x.would(Integer.MAX_VALUE, 0, 0));
        check.outOfRange("would(1, 0, -1)", () -> x.would(1, 0, -1));
        check.outOfRange("would(1, 0, 10)", () -> x.would(1, 0, 10));
        x.pass(20);
        x.pass(20);
        check.same("would(20, 0, 0) in the year 40", x.would(20, 0, 0), 100);
        x.pass(1);
        check.notNow("would(20, 0, 0) in the year 41", () -> x.would(20, 0, 0));
        check.outOfRange("would(20, 0, 10) in the year 41", () -> x.would(20, 0, 10));
        check.outOfRange("would(21, 0, 0) in the year 41", () -> x.would(21, 0, 0));
        check.noCell("would(20, 12, 0) in the year 41", () -> x.would(20, 12, 0));
        check.same("would(19, 0, 0) in the year 41", x.would(19, 0, 0), 100);
        x.pass(19);
        check.notNow("would(1, 0, 0) in the year 60", () -> x.would(1, 0, 0));
        check.outOfRange("would(0, 0, 0) in the year 60", () -> x.would(0, 0, 0));
    }
}
