/** How years are numbered, and that their steps come one behind the other. */
public final class YearTest {
    private static final String NUMBERED = "Years are numbered from 0 to 60; it is the year 0 at first.";
    private static final String STEPS = "As a year passes its number is 1 more; then these steps are done, "
        + "one behind the other, each for all CELLS by how things are behind the step ahead:";

    public static void main(String[] args) {
        Check.run(YearTest.class);
    }

    @Said(under = "A year", value = NUMBERED)
    static void isTheYear0AtFirst(Check check) {
        IceLand x = new IceLand();
        x.ice(3, 1);
        check.same("ice of the year 0", x.yearAt(3, 0), 0);
        check.same("the first year that passes is 1", x.pass(1), 1);
    }

    @Said(under = "A year", value = NUMBERED)
    static void theYear60IsAYearAsAnyOther(Check check) {
        IceLand x = new IceLand();
        x.climate(0, 3, 0);
        x.pass(20);
        x.pass(20);
        x.pass(19);
        check.same("the year 60", x.pass(1), 60);
        check.same("its snow", x.layer(11, 60), 3);
        check.same("its front", x.front(60), 11);
        check.same("its moraine", x.cellIs(11, 4), 60);
        check.same("its unit lies uppermost", x.yearAt(11, 0), 60);
    }

    @Said(under = "A year", value = NUMBERED)
    static void thereIsNoYear61(Check check) {
        check.notNow(Scene.LAST, "pass(1)", x -> x.pass(1));
        check.outOfRange(Scene.LAST, "front(61)", x -> x.front(61));
        check.outOfRange(Scene.LAST, "layer(0, 61)", x -> x.layer(0, 61));
    }

    @Said(under = "A year", value = STEPS)
    static void snowIsOfTheNewYear(Check check) {
        IceLand x = new IceLand();
        x.climate(0, 3, 0);
        x.pass(1);
        check.same("layer of the year 0", x.layer(4, 0), 0);
        check.same("layer of the year 1", x.layer(4, 1), 3);
    }

    @Said(under = "A year", value = STEPS)
    static void flowComesBehindSnow(Check check) {
        IceLand x = new IceLand();
        x.land(0, 500);
        x.climate(0, 4, 0);
        x.pass(1);
        check.cells("a fourth of the new snow", x, 1, 0, 3, 5, 4);
    }

    @Said(under = "A year", value = STEPS)
    static void flowSlidesOnWaterOfTheSameYear(Check check) {
        // 10 warmer than half of 128: 4 units melt, so that twice 24 times 24 by 200 flow.
        IceLand x = new IceLand();
        x.ice(0, 28);
        x.climate(74, 0, 4);
        x.pass(1);
        check.cells("24 units upon 4 of water", x, 1, 0, 20, 4);
    }

    /** Ahead of the flow the potential of 5 is above that of 4, behind it below. */
    @Said(under = "A year", value = STEPS)
    static void waterRunsByTheIceBehindTheFlow(Check check) {
        IceLand x = new IceLand();
        x.ice(4, 3);
        x.climate(300, 0, 9);
        x.pass(1);
        x.climate(0, 0, 0);
        x.land(5, 50);
        x.ice(5, 60);
        check.cells("potentials ahead", x, 9, 3, 1000, 1000, 1040, 1000);
        check.cells("water ahead", x, 2, 3, 0, 3, 0, 0);
        x.pass(1);
        check.cells("ice behind", x, 1, 3, 0, 3, 54, 3);
        check.cells("water behind", x, 2, 3, 0, 0, 3, 0);
    }

    /** Ahead of the flow cell 6 has 19 units, which 18 of water break through, behind it 20, which they do not. */
    @Said(under = "A year", value = STEPS)
    static void waterBreaksOutByTheIceBehindTheFlow(Check check) {
        IceLand x = Lakes.between(20, 19, 6);
        // 3 of the 34 units melt, and 11 times 31 by 200 is 1.
        x.land(7, 80);
        x.ice(7, 34);
        x.pass(1);
        check.cells("ice", x, 1, 4, 20, 30, 20, 29, 1);
        check.same("water", x.cellIs(5, 2), 18);
        check.same("floods", x.floods(), 0);
    }

    @Said(under = "A year", value = STEPS)
    static void waterBreaksOutInTheYearInWhichItCame(Check check) {
        IceLand x = Lakes.between(19, 20, 6);
        x.pass(1);
        check.same("year of the flood", x.flood(0, 0), 1);
    }

    @Said(under = "A year", value = STEPS)
    static void iceCalvesInTheYearInWhichItCame(Check check) {
        IceLand x = new IceLand();
        x.sea(100);
        x.land(11, 99);
        x.land(10, 100);
        x.ice(10, 15);
        x.pass(1);
        // 15 times 15 by 200 to cell 9, 16 times 15 by 200 to cell 11, where 9 is less than 10.
        check.same("bergs", x.total(3), 1);
        check.same("ice of 10", x.cellIs(10, 1), 13);
    }

    /** 27 is less than 10 times 3 behind the sinking, but not less than 10 times 2 ahead of it. */
    @Said(under = "A year", value = STEPS)
    static void iceCalvesAheadOfTheSinking(Check check) {
        IceLand x = new IceLand();
        x.sea(100);
        x.land(11, 98);
        x.ice(11, 3);
        x.pass(1);
        check.same("bed", x.cellIs(11, 0), 97);
        check.same("bergs of the first year", x.total(3), 0);
        x.pass(1);
        check.same("bergs of the second", x.total(3), 3);
    }

    @Said(under = "A year", value = STEPS)
    static void whatCalvedDoesNotWeigh(Check check) {
        IceLand x = new IceLand();
        x.sea(200);
        x.ice(11, 3);
        x.pass(1);
        check.same("bed", x.cellIs(11, 0), 100);
    }

    @Said(under = "A year", value = STEPS)
    static void whatCameAndWhatFellWeighs(Check check) {
        IceLand x = new IceLand();
        x.ice(0, 32);
        x.pass(1);
        check.same("what came", x.cellIs(1, 0), 99);
        IceLand y = new IceLand();
        y.climate(0, 3, 0);
        y.pass(1);
        check.same("what fell", y.cellIs(7, 0), 99);
    }

    @Said(under = "A year", value = STEPS)
    static void theFrontIsThatBehindTheCalving(Check check) {
        IceLand x = new IceLand();
        x.sea(200);
        x.land(3, 200);
        x.ice(3, 2);
        x.ice(11, 3);
        x.pass(1);
        check.same("front", x.front(1), 3);
        check.cells("moraine", x, 4, 11, 0);
    }
}
