import java.util.ArrayList;
import java.util.List;
import java.util.TreeMap;

/**
 * A second reckoning of the document, written from its words and not from the class: each cell is an object, each
 * core a map from years to units, a throw is one of the answers CELL, RANGE and STATE, and what would be is found
 * in a copy of the whole model.
 */
final class Model {
    static final long CELL = Long.MIN_VALUE;
    static final long RANGE = Long.MIN_VALUE + 1;
    static final long STATE = Long.MIN_VALUE + 2;

    private static final class Place {
        int bed = 100;
        int base = 100;
        int water;
        int moraine;
        int came;
        int went;
        int snowed;
        TreeMap<Integer, Integer> core = new TreeMap<>();

        int ice() {
            int sum = 0;
            for (int units : core.values()) {
                sum += units;
            }
            return sum;
        }

        int surface() {
            return bed + ice();
        }

        int potential() {
            return bed * 10 + ice() * 9;
        }

        void put(int year, int units) {
            core.merge(year, units, Integer::sum);
        }

        void loseLatest() {
            int year = core.lastKey();
            int units = core.get(year);
            if (units == 1) {
                core.remove(year);
            } else {
                core.put(year, units - 1);
            }
        }

        int loseEarliest() {
            int year = core.firstKey();
            int units = core.get(year);
            if (units == 1) {
                core.remove(year);
            } else {
                core.put(year, units - 1);
            }
            return year;
        }
    }

    private record Flood(int year, int cell, int units) {
    }

    private record Gift(int from, int to, int units) {
    }

    private final List<Place> places = new ArrayList<>();
    private final List<Flood> floods = new ArrayList<>();
    private final List<Integer> fronts = new ArrayList<>();
    private final List<Integer> ices = new ArrayList<>();
    private final List<Integer> ashes = new ArrayList<>();
    private final List<int[]> forecasts = new ArrayList<>();
    private int year;
    private int level;
    private int warmth;
    private int snow;
    private int factor;
    private int sea;
    private int bergs;
    private int fallen;
    private int told;
    private int molten;

    Model() {
        for (int i = 0; i < 12; i++) {
            places.add(new Place());
        }
        fronts.add(-1);
        ices.add(0);
    }

    private Model copy() {
        Model m = new Model();
        for (int i = 0; i < 12; i++) {
            Place from = places.get(i);
            Place to = m.places.get(i);
            to.bed = from.bed;
            to.base = from.base;
            to.water = from.water;
            to.moraine = from.moraine;
            to.came = from.came;
            to.went = from.went;
            to.snowed = from.snowed;
            to.core = new TreeMap<>(from.core);
        }
        m.fronts.clear();
        m.fronts.addAll(fronts);
        m.ices.clear();
        m.ices.addAll(ices);
        m.year = year;
        m.level = level;
        m.warmth = warmth;
        m.snow = snow;
        m.factor = factor;
        return m;
    }

    private static int down(long a, long by) {
        long q = a / by;
        return (int) (q * by > a ? q - 1 : q);
    }

    private boolean inSea(Place p) {
        return p.bed < level;
    }

    private int allIce() {
        int sum = 0;
        for (Place p : places) {
            sum += p.ice();
        }
        return sum;
    }

    private List<Place> beside(int i) {
        List<Place> list = new ArrayList<>();
        if (i > 0) {
            list.add(places.get(i - 1));
        }
        if (i < 11) {
            list.add(places.get(i + 1));
        }
        return list;
    }

    private void year() {
        year++;
        for (Place p : places) {
            int here = warmth - down(p.surface(), 2);
            p.snowed = 0;
            if (here < 0 && (p.ice() > 0 || !inSea(p))) {
                p.snowed = snow;
                fallen += snow;
                if (snow > 0) {
                    p.put(year, snow);
                }
            }
            if (here > 0) {
                int melt = Math.min(down((long) here * factor, 10), p.ice());
                for (int i = 0; i < melt; i++) {
                    p.loseLatest();
                }
                p.water += melt;
                molten += melt;
            }
        }
        flow();
        run();
        for (int i = 0; i < 12; i++) {
            Place p = places.get(i);
            int least = Integer.MAX_VALUE;
            for (Place q : beside(i)) {
                if (q.ice() > 0) {
                    least = Math.min(least, q.ice());
                }
            }
            if (p.water >= 10 && least < Integer.MAX_VALUE && 10L * p.water > 9L * least) {
                floods.add(new Flood(year, i, p.water));
                sea += p.water;
                p.water = 0;
            }
        }
        for (int i = 11; i >= 0; i--) {
            Place p = places.get(i);
            boolean floats = 9 * p.ice() < 10 * (level - p.bed);
            if (!inSea(p) || (p.ice() > 0 && !floats)) {
                break;
            }
            bergs += p.ice();
            p.core.clear();
        }
        for (Place p : places) {
            p.bed += Integer.signum(p.base - down(p.ice(), 3) - p.bed);
        }
        int front = -1;
        for (int i = 0; i < 12; i++) {
            front = places.get(i).ice() > 0 ? i : front;
        }
        if (front != -1) {
            places.get(front).moraine++;
        }
        fronts.add(front);
        ices.add(allIce());
    }

    private void flow() {
        List<Gift> gifts = new ArrayList<>();
        for (int i = 0; i < 11; i++) {
            int a = places.get(i).surface();
            int b = places.get(i + 1).surface();
            if (a != b) {
                int from = a > b ? i : i + 1;
                Place giver = places.get(from);
                int units = down((long) Math.abs(a - b) * giver.ice(), 200);
                if (giver.water >= 4) {
                    units += units;
                }
                gifts.add(new Gift(from, a > b ? i + 1 : i, Math.min(units, giver.ice() / 4)));
            }
        }
        for (Place p : places) {
            p.came = 0;
            p.went = 0;
        }
        for (Gift gift : gifts) {
            Place from = places.get(gift.from);
            Place to = places.get(gift.to);
            for (int i = 0; i < gift.units; i++) {
                to.put(from.loseEarliest(), 1);
            }
            from.went += gift.units;
            to.came += gift.units;
        }
    }

    private void run() {
        for (int i = 0; i < 12; i++) {
            Place p = places.get(i);
            if (inSea(p) || i == 11) {
                sea += p.water;
                p.water = 0;
                continue;
            }
            Place least = places.get(i + 1);
            for (Place q : beside(i)) {
                if (q.potential() < least.potential()) {
                    least = q;
                }
            }
            if (least.potential() < p.potential()) {
                least.water += p.water;
                p.water = 0;
            }
        }
    }

    private static boolean noCell(int cell) {
        return cell < 0 || cell > 11;
    }

    private static boolean not(int value, int least, int most) {
        return value < least || value > most;
    }

    long land(int cell, int bed) {
        if (noCell(cell)) {
            return CELL;
        }
        if (not(bed, 0, 500)) {
            return RANGE;
        }
        Place p = places.get(cell);
        if (p.ice() + p.water > 0) {
            return STATE;
        }
        int before = p.bed;
        p.bed = bed;
        p.base = bed;
        return before;
    }

    long sea(int told) {
        if (not(told, 0, 500)) {
            return RANGE;
        }
        int before = level;
        level = told;
        return before;
    }

    long climate(int toldWarmth, int toldSnow, int toldFactor) {
        if (not(toldWarmth, -300, 300) || not(toldSnow, 0, 20) || not(toldFactor, 0, 9)) {
            return RANGE;
        }
        warmth = toldWarmth;
        snow = toldSnow;
        factor = toldFactor;
        return 0;
    }

    long ice(int cell, int units) {
        if (noCell(cell)) {
            return CELL;
        }
        if (not(units, 1, 999)) {
            return RANGE;
        }
        Place p = places.get(cell);
        if (p.ice() + units > 9999) {
            return STATE;
        }
        p.put(year, units);
        told += units;
        return p.ice();
    }

    long ash() {
        if (ashes.contains(year)) {
            return 1;
        }
        ashes.add(year);
        return 0;
    }

    long pass(int years) {
        if (not(years, 1, 20)) {
            return RANGE;
        }
        if (year + years > 60) {
            return STATE;
        }
        for (int i = 0; i < years; i++) {
            year();
        }
        return year;
    }

    long cellIs(int cell, int what) {
        if (noCell(cell)) {
            return CELL;
        }
        if (not(what, 0, 9)) {
            return RANGE;
        }
        Place p = places.get(cell);
        boolean crevasse = Math.abs(p.came - p.went) >= 5;
        int[] all = {p.bed, p.ice(), p.water, p.surface(), p.moraine, crevasse ? 1 : 0,
            crevasse && p.snowed >= 3 ? 1 : 0, inSea(p) ? 1 : 0, p.base, p.potential()};
        return all[what];
    }

    long layer(int cell, int of) {
        if (noCell(cell)) {
            return CELL;
        }
        return not(of, 0, 60) ? RANGE : places.get(cell).core.getOrDefault(of, 0);
    }

    long yearAt(int cell, int depth) {
        if (noCell(cell)) {
            return CELL;
        }
        if (depth < 0) {
            return RANGE;
        }
        List<Integer> units = new ArrayList<>();
        for (int of : places.get(cell).core.descendingKeySet()) {
            for (int i = 0; i < places.get(cell).core.get(of); i++) {
                units.add(of);
            }
        }
        return depth < units.size() ? units.get(depth) : -1;
    }

    long common(int cell, int other) {
        if (noCell(cell) || noCell(other)) {
            return CELL;
        }
        List<Integer> both = new ArrayList<>(ashes);
        both.retainAll(places.get(cell).core.keySet());
        both.retainAll(places.get(other).core.keySet());
        return both.size();
    }

    long floods() {
        return floods.size();
    }

    long flood(int flood, int what) {
        if (flood < 0 || flood >= floods.size()) {
            return CELL;
        }
        if (not(what, 0, 2)) {
            return RANGE;
        }
        Flood f = floods.get(flood);
        return what == 0 ? f.year : what == 1 ? f.cell : f.units;
    }

    long front(int of) {
        return not(of, 0, year) ? RANGE : fronts.get(of);
    }

    long total(int what) {
        if (not(what, 0, 5)) {
            return RANGE;
        }
        int water = 0;
        for (Place p : places) {
            water += p.water;
        }
        return new int[] {allIce(), water, sea, bergs, fallen, told}[what];
    }

    long iceAnew() {
        return fallen + told - molten - bergs;
    }

    long would(int years, int cell, int what) {
        if (noCell(cell)) {
            return CELL;
        }
        if (not(years, 1, 20) || not(what, 0, 9)) {
            return RANGE;
        }
        if (year + years > 60) {
            return STATE;
        }
        Model m = copy();
        m.pass(years);
        return m.cellIs(cell, what);
    }

    long forecast(int years) {
        if (not(years, 1, 20)) {
            return RANGE;
        }
        if (year + years > 60 || forecasts.size() == 10) {
            return STATE;
        }
        Model m = copy();
        m.pass(years);
        forecasts.add(new int[] {m.year, m.allIce()});
        return m.allIce();
    }

    long miss(int forecast) {
        if (forecast < 0 || forecast >= forecasts.size()) {
            return CELL;
        }
        int[] f = forecasts.get(forecast);
        return f[0] > year ? -1 : Math.abs(ices.get(f[0]) - f[1]);
    }
}
