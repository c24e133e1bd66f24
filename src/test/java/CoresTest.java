/** What the document says of cores, of what would be, and of forecasts. */
public final class CoresTest {
    private static final String WOULD = "What would be behind some years is what there would be, "
        + "if these passed with nothing told meanwhile; nothing is changed by asking.";
    private static final String FORECAST = "A forecast notes how much ICE all CELLS together would have then; "
        + "forecasts are numbered from 0, at most 10.";
    private static final String MISS = "Its miss is how far that is, without sign, from how much they had right "
        + "behind the year that was meant, whatever is told later.";
    private static final String CORE = "The core of a CELL is its LAYERS, those with no units left out.";

    public static void main(String[] args) {
        Check.run(CoresTest.class);
    }

    @Said(under = "Cores, forecasts", value = "A year may have ASH.")
    static void aYearHasAshOrNot(Check check) {
        IceLand x = new IceLand();
        x.ice(3, 1);
        x.pass(1);
        x.ice(3, 1);
        check.same("none", x.common(3, 3), 0);
        x.ash();
        check.same("one of two", x.common(3, 3), 1);
        x.pass(1);
        check.same("a year that passes has none", x.ash(), false);
    }

    @Said(under = "Cores, forecasts", value = CORE)
    static void moltenLayersAreLeftOut(Check check) {
        IceLand x = new IceLand();
        x.ice(7, 2);
        x.ash();
        x.pass(1);
        x.ice(7, 1);
        x.ash();
        check.same("two layers", x.common(7, 7), 2);
        // The warmth is 60 less half of 103: 9 times 2, a tenth of that.
        x.climate(60, 0, 2);
        x.pass(1);
        check.same("a unit melts, a layer of one unit", x.common(7, 7), 1);
        x.pass(1);
        check.same("another unit melts, one is left", x.cellIs(7, 1), 1);
        check.same("a layer with one unit stays", x.common(7, 7), 1);
        x.pass(1);
        check.same("none is left", x.common(7, 7), 0);
    }

    @Said(under = "Cores, forecasts", value = CORE)
    static void layersThatFlowedOffAreLeftOut(Check check) {
        IceLand x = new IceLand();
        x.ice(0, 3);
        x.ash();
        x.pass(1);
        x.ice(0, 37);
        x.pass(1);
        check.same("the year 0 flowed off the head", x.common(0, 0), 0);
        check.same("to cell 1", x.common(1, 1), 1);
        check.same("both do not have it", x.common(0, 1), 0);
    }

    @Said(under = "Cores, forecasts", value = CORE)
    static void calvedLayersAreLeftOut(Check check) {
        IceLand x = new IceLand();
        x.sea(200);
        x.ice(11, 3);
        x.ash();
        check.same("ahead of it", x.common(11, 11), 1);
        x.pass(1);
        check.same("all calved", x.common(11, 11), 0);
    }

    @Said(under = "Cores, forecasts", value = WOULD)
    static void nothingToldMeanwhileComesIntoIt(Check check) {
        IceLand x = new IceLand();
        x.climate(0, 2, 0);
        check.same("under the climate told", x.would(3, 4, 1), 6);
        x.climate(0, 0, 0);
        check.same("under the one told then", x.would(3, 4, 1), 0);
        x.ice(4, 5);
        check.same("with the ice told then", x.would(3, 4, 1), 5);
    }

    @Said(under = "Cores, forecasts", value = WOULD)
    static void nothingIsChangedByAsking(Check check) {
        for (Scene scene : new Scene[] {Scene.TOLD, Scene.LIVELY, Scene.FULL, Scene.HEAPED, Scene.PUDDLE}) {
            for (Question question : Question.values()) {
                IceLand x = scene.make();
                x.would(20, 0, 0);
                x.would(1, 11, 9);
                check.same(scene + ": " + question, question.askedOf(x), question.askedAtFirst(scene));
            }
        }
    }

    @Said(under = "Cores, forecasts", value = WOULD)
    static void noMoraineGrowsByAsking(Check check) {
        IceLand x = new IceLand();
        x.ice(0, 1);
        check.same("would(5, 0, 4)", x.would(5, 0, 4), 5);
        x.forecast(5);
        check.cells("moraine of the head", x, 4, 0, 0, 0);
        x.pass(1);
        check.cells("moraine behind a year", x, 4, 0, 1, 0);
    }

    @Said(under = "Cores, forecasts", value = WOULD)
    static void askedTwiceItIsTheSame(Check check) {
        IceLand x = Scene.LIVELY.make();
        for (int what = 0; what <= 9; what++) {
            int first = x.would(9, 4, what);
            x.would(20, 4, what);
            check.same("would(9, 4, " + what + ") again", x.would(9, 4, what), first);
        }
    }

    @Said(under = "Cores, forecasts", value = FORECAST)
    static void notesTheIceOfAllCells(Check check) {
        IceLand x = new IceLand();
        x.ice(0, 3);
        x.ice(11, 5);
        check.same("forecast(1)", x.forecast(1), 8);
    }

    @Said(under = "Cores, forecasts", value = FORECAST)
    static void areNumberedFrom0ToAtMost9(Check check) {
        IceLand x = new IceLand();
        for (int i = 0; i < 10; i++) {
            x.ice(0, 1);
            check.same("forecast " + i, x.forecast(1), i + 1);
        }
        x.pass(1);
        for (int i = 0; i < 10; i++) {
            check.same("miss(" + i + ")", x.miss(i), 9 - i);
        }
        check.notNow(x, "forecast 10", y -> y.forecast(1));
        check.noSuch(Scene.FULL, "miss(10)", y -> y.miss(10));
        check.noSuch(Scene.FULL, "miss(-1)", y -> y.miss(-1));
    }

    @Said(under = "Cores, forecasts", value = MISS)
    static void isFromTheIceBehindTheYearThatWasMeant(Check check) {
        IceLand x = new IceLand();
        x.ice(3, 3);
        x.forecast(2);
        x.ice(3, 4);
        x.pass(2);
        check.same("as it has passed", x.miss(0), 4);
        x.ice(3, 900);
        check.same("whatever ice is told later", x.miss(0), 4);
        x.climate(300, 0, 9);
        x.pass(20);
        check.same("whatever melts later", x.miss(0), 4);
    }

    @Said(under = "Cores, forecasts", value = MISS)
    static void isWithoutSign(Check check) {
        IceLand more = new IceLand();
        more.forecast(1);
        more.ice(3, 4);
        more.pass(1);
        check.same("more came", more.miss(0), 4);
        IceLand less = new IceLand();
        less.ice(3, 4);
        less.forecast(1);
        less.climate(300, 0, 9);
        less.pass(1);
        check.same("less came", less.miss(0), 4);
    }
}
