/** Lands with lakes between tongues of ice, made so that all surfaces are alike when ice would flow. */
final class Lakes {
    private Lakes() {
    }

    /**
     * Puts ice on land so that its surface will be 100 as ice flows, and melt more units melt there ahead of that,
     * where meltOf(..) was told as the climate.
     */
    static void tongue(IceLand x, int cell, int ice, int melt) {
        x.land(cell, 100 - ice);
        x.ice(cell, ice + melt);
    }

    /** The climate in which just so many units, up to 9 or 10 to 18 and even, melt of each cell of 100 and as many. */
    static void meltOf(IceLand x, int melt) {
        int warmth = melt <= 9 ? 10 : 20;
        x.climate(warmth + (100 + melt) / 2, 0, 10 * melt / warmth);
    }

    /** Three tongues, all whose water is in the middle one then; the sums of ice are those behind the melt. */
    static IceLand between(int before, int behind, int melt) {
        IceLand x = new IceLand();
        addBetween(x, 5, before, behind, melt);
        meltOf(x, melt);
        return x;
    }

    static void addBetween(IceLand x, int cell, int before, int behind, int melt) {
        if (before > 0) {
            tongue(x, cell - 1, before, melt);
        }
        tongue(x, cell, 30, melt);
        if (behind > 0) {
            tongue(x, cell + 1, behind, melt);
        }
    }
}
