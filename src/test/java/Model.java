import java.util.ArrayList;
import java.util.List;
import java.util.NoSuchElementException;

/** The document once more, with the machine's own floats and doubles, to compare the mast with. */
final class Model {
    private final List<One> all = new ArrayList<>();
    private int readings;
    private int alarms;
    private int steps;

    private static final class Link {
        int step;
        Number told;
        One leader;
    }

    private static final class One {
        int sort;
        final List<Link> chain = new ArrayList<>();
        Number low;
        Number high;
        final List<Number> read = new ArrayList<>();
        int alarms;
    }

    int mount(int sort) {
        sortOrRefuse(sort);
        if (all.size() == 8) {
            throw new UnsupportedOperationException();
        }
        One one = new One();
        one.sort = sort;
        one.low = new Number[] {Integer.MIN_VALUE, Long.MIN_VALUE, Float.NEGATIVE_INFINITY, Double.NEGATIVE_INFINITY}[sort];
        one.high = new Number[] {Integer.MAX_VALUE, Long.MAX_VALUE, Float.POSITIVE_INFINITY, Double.POSITIVE_INFINITY}[sort];
        all.add(one);
        return all.size() - 1;
    }

    int step(int instrument, int step, long k) {
        One one = at(instrument);
        stepOrRefuse(one, step);
        Link link = new Link();
        link.step = step;
        if (takesK(step)) {
            link.told = numberOrRefuse(one.sort, k);
        }
        return add(one, link);
    }

    int follow(int instrument, int step, int other) {
        One one = at(instrument);
        One leader = at(other);
        stepOrRefuse(one, step);
        if (!takesK(step) || one.sort != leader.sort) {
            throw new IllegalArgumentException();
        }
        Link link = new Link();
        link.step = step;
        link.leader = leader;
        return add(one, link);
    }

    long read(int instrument, long bits) {
        One one = at(instrument);
        Number v = numberOrRefuse(one.sort, bits);
        for (Link link : one.chain) {
            Number k = link.leader == null ? link.told : latestOrZero(link.leader);
            v = stepped(one.sort, link.step, v, k);
            steps++;
        }
        one.read.add(v);
        readings++;
        if (isBelow(one.sort, v, one.low) || isBelow(one.sort, one.high, v)) {
            one.alarms++;
            alarms++;
        }
        return bits(v);
    }

    long reading(int instrument, int i) {
        One one = at(instrument);
        if (i < 0 || i > 15 || i >= one.read.size()) {
            throw new NoSuchElementException();
        }
        return bits(one.read.get(one.read.size() - 1 - i));
    }

    long tell(int instrument, int what) {
        One one = at(instrument);
        if (what < 0 || what > 3) {
            throw new IllegalArgumentException();
        }
        if (one.read.isEmpty()) {
            throw new NoSuchElementException();
        }
        if (what == 2) {
            return bits(swing(one));
        }
        Number told = what == 3 ? zero(one.sort) : one.read.get(0);
        for (Number v : one.read) {
            if (what == 3) {
                told = sum(one.sort, told, stepped(one.sort, 0, v, null));
            } else {
                told = stepped(one.sort, what == 0 ? 2 : 1, told, v);
            }
        }
        return bits(told);
    }

    int whole(int instrument) {
        One one = at(instrument);
        if (one.read.isEmpty()) {
            throw new NoSuchElementException();
        }
        Number v = one.read.get(one.read.size() - 1);
        if (one.sort == 1) {
            long tally = v.longValue();
            return tally > Integer.MAX_VALUE ? Integer.MAX_VALUE : tally < Integer.MIN_VALUE ? Integer.MIN_VALUE : (int) tally;
        }
        return v.intValue();
    }

    boolean limits(int instrument, long low, long high) {
        One one = at(instrument);
        Number lowest = numberOrRefuse(one.sort, low);
        Number highest = numberOrRefuse(one.sort, high);
        one.low = lowest;
        one.high = highest;
        return !isBelow(one.sort, highest, lowest);
    }

    long widest(int sort) {
        sortOrRefuse(sort);
        Number widest = null;
        for (One one : all) {
            if (one.sort == sort && !one.read.isEmpty()) {
                widest = widest == null ? swing(one) : stepped(sort, 1, widest, swing(one));
            }
        }
        if (widest == null) {
            throw new NoSuchElementException();
        }
        return bits(widest);
    }

    int forget(int instrument) {
        One one = at(instrument);
        int were = one.read.size();
        one.read.clear();
        return were;
    }

    int alarms(int instrument) {
        return at(instrument).alarms;
    }

    int count(int what) {
        return what == 0 ? all.size() : what == 1 ? readings : what == 2 ? alarms : what == 3 ? steps : -1;
    }

    private One at(int instrument) {
        if (instrument < 0 || instrument >= all.size()) {
            throw new IndexOutOfBoundsException();
        }
        return all.get(instrument);
    }

    private static void sortOrRefuse(int sort) {
        if (sort < 0 || sort > 3) {
            throw new IllegalArgumentException();
        }
    }

    private static void stepOrRefuse(One one, int step) {
        if (step < 0 || step > (one.sort < 2 ? 2 : 7)) {
            throw new IllegalArgumentException();
        }
    }

    private static boolean takesK(int step) {
        return step == 1 || step == 2 || step == 7;
    }

    private static int add(One one, Link link) {
        if (one.chain.size() == 6) {
            throw new IllegalStateException();
        }
        one.chain.add(link);
        return one.chain.size();
    }

    private static Number latestOrZero(One one) {
        return one.read.isEmpty() ? zero(one.sort) : one.read.get(one.read.size() - 1);
    }

    private static Number zero(int sort) {
        return new Number[] {0, 0L, 0f, 0.0}[sort];
    }

    private static Number numberOrRefuse(int sort, long bits) {
        if (sort == 0) {
            return (int) bits;
        }
        if (sort == 1) {
            return bits;
        }
        Number v;
        boolean none;
        if (sort == 2) {
            float single = Float.intBitsToFloat((int) bits);
            none = Float.isNaN(single);
            v = single;
        } else {
            double two = Double.longBitsToDouble(bits);
            none = Double.isNaN(two);
            v = two;
        }
        if (none) {
            throw new IllegalArgumentException();
        }
        return v;
    }

    private static long bits(Number v) {
        if (v instanceof Float) {
            return Float.floatToRawIntBits(v.floatValue());
        }
        return v instanceof Double ? Double.doubleToRawLongBits(v.doubleValue()) : v.longValue();
    }

    private static Number swing(One one) {
        int size = one.read.size();
        if (size == 1) {
            return zero(one.sort);
        }
        Number now = one.read.get(size - 1);
        Number ahead = one.read.get(size - 2);
        switch (one.sort) {
            case 0:
                return Math.abs(now.intValue() - ahead.intValue());
            case 1:
                return Math.abs(now.longValue() - ahead.longValue());
            case 2:
                return now.floatValue() == ahead.floatValue() ? 0f : Math.abs(now.floatValue() - ahead.floatValue());
            default:
                return now.doubleValue() == ahead.doubleValue() ? 0.0 : Math.abs(now.doubleValue() - ahead.doubleValue());
        }
    }

    private static Number sum(int sort, Number a, Number b) {
        switch (sort) {
            case 0:
                return a.intValue() + b.intValue();
            case 1:
                return a.longValue() + b.longValue();
            case 2:
                return a.floatValue() + b.floatValue();
            default:
                return a.doubleValue() + b.doubleValue();
        }
    }

    private static boolean isBelow(int sort, Number a, Number b) {
        return sort < 2 ? a.longValue() < b.longValue() : a.doubleValue() < b.doubleValue();
    }

    private static Number stepped(int sort, int step, Number v, Number k) {
        switch (sort) {
            case 0:
                return (int) steppedWhole(step, v.intValue(), k);
            case 1:
                return steppedWhole(step, v.longValue(), k);
            case 2:
                return (float) steppedFloating(step, v.doubleValue(), k);
            default:
                return steppedFloating(step, v.doubleValue(), k);
        }
    }

    private static long steppedWhole(int step, long v, Number k) {
        return step == 0 ? Math.abs(v) : step == 1 ? Math.max(v, k.longValue()) : Math.min(v, k.longValue());
    }

    private static double steppedFloating(int step, double v, Number k) {
        switch (step) {
            case 0:
                return Math.abs(v);
            case 1:
                return Math.max(v, k.doubleValue());
            case 2:
                return Math.min(v, k.doubleValue());
            case 3:
                return Math.floor(v);
            case 4:
                return Math.ceil(v);
            case 5:
                return Math.rint(v);
            case 6:
                return Math.signum(v);
            default:
                return Math.copySign(v, k.doubleValue());
        }
    }
}
