import java.util.Random;

/** Runs of at most 512 calls, with the same numbers each time, held against the Model. */
public final class ModelTest {
    private static final int RUNS = 400;
    private static final int CALLS = 512;
    private static final int METHODS = 18;
    private static final int[] ODD = {-1, 12, 61, 501, 1000, Integer.MIN_VALUE, Integer.MAX_VALUE};

    private final Check check;
    private final Random random;
    private final IceLand x = new IceLand();
    private final Model m = new Model();
    private final StringBuilder told = new StringBuilder();
    private int a;
    private int b;
    private int c;

    private ModelTest(Check check, int run) {
        this.check = check;
        random = new Random(run);
    }

    public static void main(String[] args) {
        Check check = new Check("Model");
        int floods = 0;
        int bergs = 0;
        int hidden = 0;
        for (int run = 0; run < RUNS; run++) {
            ModelTest test = new ModelTest(check, run);
            boolean good = test.run(run);
            floods += (int) test.m.floods();
            bergs += (int) test.m.total(3);
            for (int cell = 0; cell < 12; cell++) {
                hidden += (int) test.m.cellIs(cell, 6);
            }
            if (!good) {
                break;
            }
        }
        check.same("there are floods in the runs", floods > RUNS, true);
        check.same("there are bergs in the runs", bergs > RUNS, true);
        check.same("there are hidden crevasses in the runs", hidden > RUNS / 10, true);
        check.end();
    }

    private boolean run(int run) {
        // Land, sea and climate of one kind for each run, so that lakes, tongues and deserts all come up.
        int setting = random.nextInt(30);
        for (int i = 0; i < setting; i++) {
            if (!same(run, i, random.nextInt(4))) {
                return false;
            }
        }
        for (int i = setting; i < CALLS; i++) {
            int method = random.nextInt(METHODS);
            // The first ones, and years, come less often than questions, so that the 60 years last.
            if ((method < 7 || method == 16) && random.nextInt(3) > 0) {
                method = 7 + random.nextInt(METHODS - 7);
            }
            if (!same(run, i, method)) {
                return false;
            }
        }
        return true;
    }

    private boolean same(int run, int call, int method) {
        choose(method);
        long due = ofModel(method);
        long got;
        try {
            got = ofClass(method);
        } catch (IndexOutOfBoundsException e) {
            got = e.getClass() == IndexOutOfBoundsException.class ? Model.CELL : 7777777;
        } catch (IllegalArgumentException e) {
            got = Model.RANGE;
        } catch (IllegalStateException e) {
            got = Model.STATE;
        }
        told.append("\n  ").append(method).append(' ').append(a).append(' ').append(b).append(' ').append(c)
            .append(" -> ").append(got);
        if (got != due) {
            check.wrong("run " + run + ", call " + call + ": due is " + due + told);
        }
        return got == due;
    }

    private int upTo(int most) {
        return random.nextInt(60) == 0 ? ODD[random.nextInt(ODD.length)] : random.nextInt(most + 1);
    }

    private int few(int most) {
        return upTo(random.nextInt(4) == 0 ? most : Math.max(1, most / 8));
    }

    private void choose(int method) {
        a = upTo(11);
        b = upTo(9);
        c = 0;
        switch (method) {
            case 0:
                b = few(500);
                break;
            case 1:
                a = few(500);
                break;
            case 2:
                a = random.nextInt(20) == 0 ? upTo(301) : upTo(160) - 40;
                b = upTo(random.nextBoolean() ? 20 : 3);
                c = upTo(9);
                break;
            case 3:
                b = few(999);
                break;
            case 4:
                break;
            case 5:
                a = random.nextInt(9) == 0 ? upTo(21) : 1 + random.nextInt(2);
                break;
            case 7:
                b = random.nextInt(8) == 0 ? upTo(61) : random.nextInt(5);
                break;
            case 8:
                b = upTo(200);
                break;
            case 9:
                b = upTo(11);
                break;
            case 11:
                a = upTo(12);
                b = upTo(3);
                break;
            case 12:
                a = upTo(random.nextBoolean() ? 60 : 10);
                break;
            case 13:
                a = upTo(6);
                break;
            case 15:
                c = upTo(10);
                b = a;
                a = upTo(21);
                break;
            case 16:
                a = upTo(21);
                break;
            case 17:
                a = upTo(10);
                break;
            default:
                break;
        }
    }

    private long ofClass(int method) {
        switch (method) {
            case 0:
                return x.land(a, b);
            case 1:
                return x.sea(a);
            case 2:
                x.climate(a, b, c);
                return 0;
            case 3:
                return x.ice(a, b);
            case 4:
                return x.ash() ? 1 : 0;
            case 5:
                return x.pass(a);
            case 7:
                return x.layer(a, b);
            case 8:
                return x.yearAt(a, b);
            case 9:
                return x.common(a, b);
            case 10:
                return x.floods();
            case 11:
                return x.flood(a, b);
            case 12:
                return x.front(a);
            case 13:
                return x.total(a);
            case 14:
                return x.iceAnew();
            case 15:
                return x.would(a, b, c);
            case 16:
                return x.forecast(a);
            case 17:
                return x.miss(a);
            default:
                return x.cellIs(a, b);
        }
    }

    private long ofModel(int method) {
        switch (method) {
            case 0:
                return m.land(a, b);
            case 1:
                return m.sea(a);
            case 2:
                return m.climate(a, b, c);
            case 3:
                return m.ice(a, b);
            case 4:
                return m.ash();
            case 5:
                return m.pass(a);
            case 7:
                return m.layer(a, b);
            case 8:
                return m.yearAt(a, b);
            case 9:
                return m.common(a, b);
            case 10:
                return m.floods();
            case 11:
                return m.flood(a, b);
            case 12:
                return m.front(a);
            case 13:
                return m.total(a);
            case 14:
                return m.iceAnew();
            case 15:
                return m.would(a, b, c);
            case 16:
                return m.forecast(a);
            case 17:
                return m.miss(a);
            default:
                return m.cellIs(a, b);
        }
    }
}
