/** Lands told by always the same calls, so that two of one scene are alike until something is told to one of them. */
enum Scene {
    /** Nothing is told. */
    NEW(0, 0),
    /** Something of each is told, no year has passed. */
    TOLD(0, 2),
    /** There were a flood and calving; there are water, crevasses, ash, and forecasts, some of which have passed. */
    LIVELY(4, 3),
    /** The cells 0, 5 and 11 take no more ice, and no forecast can be made. */
    FULL(0, 10),
    /** Ice has come to cell 5, so that it has 14997 units. */
    HEAPED(1, 0),
    /** Cell 4 has a unit of water, and no cell has ice. */
    PUDDLE(1, 0),
    /** Less than 20 years are left. */
    LATE(41, 3),
    /** No year is left. */
    LAST(60, 3);

    /** The year of now. */
    final int year;
    /** How many forecasts there are. */
    final int forecasts;

    Scene(int year, int forecasts) {
        this.year = year;
        this.forecasts = forecasts;
    }

    IceLand make() {
        IceLand x = new IceLand();
        switch (this) {
            case NEW:
                break;
            case FULL:
                fill(x);
                break;
            case HEAPED:
                heap(x);
                break;
            case PUDDLE:
                x.land(4, 90);
                x.ice(4, 1);
                x.climate(55, 0, 1);
                x.pass(1);
                break;
            default:
                tell(x);
                passTo(x);
                break;
        }
        return x;
    }

    private static void tell(IceLand x) {
        x.sea(61);
        x.land(0, 400);
        x.land(1, 300);
        x.land(2, 240);
        x.land(4, 70);
        Lakes.addBetween(x, 7, 5, 6, 5);
        x.land(11, 20);
        x.ice(1, 150);
        x.ice(2, 20);
        x.ice(11, 30);
        x.ash();
        x.climate(62, 4, 5);
        x.forecast(1);
        x.forecast(20);
    }

    private void passTo(IceLand x) {
        int left = year;
        if (left > 0) {
            x.pass(1);
            x.ice(3, 5);
            x.forecast(3);
            left--;
        }
        while (left > 0) {
            int years = Math.min(left, 20);
            x.pass(years);
            left -= years;
        }
    }

    private static void most(IceLand x, int cell) {
        for (int i = 0; i < 11; i++) {
            x.ice(cell, 909);
        }
    }

    private static void heap(IceLand x) {
        x.land(4, 500);
        x.land(5, 0);
        x.land(6, 500);
        for (int cell = 4; cell <= 6; cell++) {
            most(x, cell);
        }
        x.pass(1);
    }

    private static void fill(IceLand x) {
        most(x, 0);
        most(x, 5);
        most(x, 11);
        x.ash();
        x.climate(-300, 20, 0);
        for (int i = 0; i < 10; i++) {
            x.forecast(i + 1);
        }
    }
}
