import java.util.NoSuchElementException;

/**
 * A weather mast: instruments of four sorts give readings, which go through a chain of steps each
 * and are kept; least and greatest readings, swings, sums and alarms are told.
 */
public final class WeatherMast {
    private static final int COUNTS = 0;
    private static final int TALLIES = 1;
    private static final int SINGLES = 2;
    private static final int DOUBLES = 3;

    private static final int AMOUNT = 0;
    private static final int AT_LEAST = 1;
    private static final int AT_MOST = 2;
    private static final int DOWN = 3;
    private static final int UP = 4;
    private static final int NEAREST = 5;
    private static final int SIGN = 6;
    private static final int LIKE = 7;

    private static final int MOST_INSTRUMENTS = 8;
    private static final int MOST_STEPS = 6;
    /** A power of two, so that a mask finds a reading's place whatever the number of readings is. */
    private static final int MOST_KEPT = 16;

    private final Instrument[] instruments;
    private int mounted;
    private int readingsEver;
    private int alarmsEver;
    private int stepsEver;

    public WeatherMast() {
        instruments = new Instrument[MOST_INSTRUMENTS];
    }

    public int mount(int sort) throws IllegalArgumentException, UnsupportedOperationException {
        if (!isSort(sort)) {
            throw new IllegalArgumentException("no such sort");
        }
        if (mounted >= instruments.length) {
            throw new UnsupportedOperationException("there are eight instruments");
        }
        int number = mounted;
        instruments[number] = new Instrument(sort, numbersOf(sort));
        mounted = number + 1;
        return number;
    }

    public int step(int instrument, int step, long k)
            throws IndexOutOfBoundsException, IllegalArgumentException, IllegalStateException {
        Instrument changed = instrumentAt(instrument);
        Numbers numbers = changed.numbers;
        if (!numbers.hasStep(step)) {
            throw new IllegalArgumentException("no such step of this sort");
        }
        long constant = numbers.ofWidth(k);
        if (takesK(step) && !numbers.isNumber(constant)) {
            throw new IllegalArgumentException("K is no number");
        }
        if (changed.chainIsFull()) {
            throw new IllegalStateException("there are six steps");
        }
        return changed.addStep(step, constant, null);
    }

    public int follow(int instrument, int step, int other)
            throws IndexOutOfBoundsException, IllegalArgumentException, IllegalStateException {
        Instrument changed = instrumentAt(instrument);
        Instrument leader = instrumentAt(other);
        if (!changed.numbers.hasStep(step) || !takesK(step)) {
            throw new IllegalArgumentException("no such step with K of this sort");
        }
        if (changed.sort != leader.sort) {
            throw new IllegalArgumentException("the other instrument is of another sort");
        }
        if (changed.chainIsFull()) {
            throw new IllegalStateException("there are six steps");
        }
        return changed.addStep(step, 0, leader);
    }

    public long read(int instrument, long bits) throws IndexOutOfBoundsException, IllegalArgumentException {
        Instrument reader = instrumentAt(instrument);
        long told = reader.numbers.ofWidth(bits);
        if (!reader.numbers.isNumber(told)) {
            throw new IllegalArgumentException("the bits are no number");
        }
        long result = reader.throughChain(told);
        reader.keep(result);
        readingsEver++;
        stepsEver += reader.steps;
        if (reader.isBeyondLimits(result)) {
            reader.alarmsGiven++;
            alarmsEver++;
        }
        return result;
    }

    public long reading(int instrument, int i) throws IndexOutOfBoundsException, NoSuchElementException {
        Instrument asked = instrumentAt(instrument);
        if (!asked.keeps(i)) {
            throw new NoSuchElementException("no such reading is kept");
        }
        return asked.latest(i);
    }

    public long tell(int instrument, int what)
            throws IndexOutOfBoundsException, IllegalArgumentException, NoSuchElementException {
        Instrument asked = instrumentAt(instrument);
        if (what < 0 || what > 3) {
            throw new IllegalArgumentException("no such thing to tell");
        }
        if (!asked.hasRead()) {
            throw new NoSuchElementException("nothing has been read");
        }
        switch (what) {
            case 0:
                return asked.least;
            case 1:
                return asked.greatest;
            case 2:
                return asked.swing;
            default:
                return asked.sum;
        }
    }

    public int whole(int instrument) throws IndexOutOfBoundsException, NoSuchElementException {
        Instrument asked = instrumentAt(instrument);
        if (!asked.hasRead()) {
            throw new NoSuchElementException("nothing has been read");
        }
        return asked.numbers.toInt(asked.latest(0));
    }

    public boolean limits(int instrument, long low, long high)
            throws IndexOutOfBoundsException, IllegalArgumentException {
        Instrument changed = instrumentAt(instrument);
        Numbers numbers = changed.numbers;
        long lowest = numbers.ofWidth(low);
        long highest = numbers.ofWidth(high);
        if (!numbers.isNumber(lowest) || !numbers.isNumber(highest)) {
            throw new IllegalArgumentException("a limit is no number");
        }
        changed.low = lowest;
        changed.high = highest;
        return !numbers.isAbove(lowest, highest);
    }

    public long widest(int sort) throws IllegalArgumentException, NoSuchElementException {
        if (!isSort(sort)) {
            throw new IllegalArgumentException("no such sort");
        }
        boolean found = false;
        long greatest = 0;
        for (Instrument one : instruments) {
            if (one != null && one.sort == sort && one.hasRead()) {
                greatest = found ? one.numbers.greater(greatest, one.swing) : one.swing;
                found = true;
            }
        }
        if (!found) {
            throw new NoSuchElementException("no instrument of this sort has read anything");
        }
        return greatest;
    }

    public int forget(int instrument) throws IndexOutOfBoundsException {
        return instrumentAt(instrument).dropReadings();
    }

    public int alarms(int instrument) throws IndexOutOfBoundsException {
        return instrumentAt(instrument).alarmsGiven;
    }

    public int count(int what) {
        switch (what) {
            case 0:
                return mounted;
            case 1:
                return readingsEver;
            case 2:
                return alarmsEver;
            case 3:
                return stepsEver;
            default:
                return -1;
        }
    }

    private Instrument instrumentAt(int number) {
        Instrument found = number >= 0 && number < instruments.length ? instruments[number] : null;
        if (found == null) {
            throw new IndexOutOfBoundsException("no such instrument");
        }
        return found;
    }

    private static boolean isSort(int sort) {
        return sort >= COUNTS && sort <= DOUBLES;
    }

    private static boolean takesK(int step) {
        return step == AT_LEAST || step == AT_MOST || step == LIKE;
    }

    private static Numbers numbersOf(int sort) {
        switch (sort) {
            case COUNTS:
                return new Wrapping(32);
            case TALLIES:
                return new Wrapping(64);
            case SINGLES:
                return new Floating(32, 23);
            default:
                return new Floating(64, 52);
        }
    }

    /** One instrument: its chain, its limits and what it has read. */
    private static final class Instrument {
        final int sort;
        final Numbers numbers;
        long low;
        long high;
        int alarmsGiven;
        int steps;
        long least;
        long greatest;
        long swing;
        long sum;
        private final int[] kinds;
        private final long[] constants;
        /** Null where the step's K was told with it. */
        private final Instrument[] leaders;
        private final long[] kept;
        private int taken;

        Instrument(int sort, Numbers numbers) {
            this.sort = sort;
            this.numbers = numbers;
            low = numbers.leastOfAll;
            high = numbers.greatestOfAll;
            kinds = new int[MOST_STEPS];
            constants = new long[MOST_STEPS];
            leaders = new Instrument[MOST_STEPS];
            kept = new long[MOST_KEPT];
        }

        boolean chainIsFull() {
            return steps >= kinds.length;
        }

        /** How many steps there are then; a full chain stays as it is. */
        int addStep(int kind, long constant, Instrument leader) {
            if (!chainIsFull()) {
                kinds[steps] = kind;
                constants[steps] = constant;
                leaders[steps] = leader;
                steps++;
            }
            return steps;
        }

        long throughChain(long told) {
            long v = told;
            for (int i = 0; i < steps; i++) {
                Instrument leader = leaders[i];
                long k = leader == null ? constants[i] : leader.latestOrZero();
                v = numbers.stepped(kinds[i], v, k);
            }
            return v;
        }

        void keep(long v) {
            if (hasRead()) {
                least = numbers.lesser(least, v);
                greatest = numbers.greater(greatest, v);
                swing = numbers.apart(v, latest(0));
                sum = numbers.plus(sum, numbers.amount(v));
            } else {
                least = v;
                greatest = v;
                swing = 0;
                sum = numbers.amount(v);
            }
            kept[taken & (MOST_KEPT - 1)] = v;
            taken++;
        }

        boolean isBeyondLimits(long v) {
            return numbers.isAbove(low, v) || numbers.isAbove(v, high);
        }

        boolean hasRead() {
            return taken != 0;
        }

        boolean keeps(int i) {
            return i >= 0 && i < MOST_KEPT && i < taken;
        }

        /** The i-th latest reading, which is to be a kept one. */
        long latest(int i) {
            return kept[(taken - 1 - i) & (MOST_KEPT - 1)];
        }

        long latestOrZero() {
            return hasRead() ? latest(0) : 0;
        }

        int dropReadings() {
            int dropped = taken;
            taken = 0;
            return dropped;
        }
    }

    /**
     * What can be done with the numbers of a sort. They are held as the bits that are answered: those
     * of 32 bits are made longer with their sign, so that a number's sign is always the long's sign.
     */
    private abstract static class Numbers {
        final long leastOfAll;
        final long greatestOfAll;
        private final int width;
        private final int lastStep;

        Numbers(int width, int lastStep, long leastOfAll, long greatestOfAll) {
            this.width = width;
            this.lastStep = lastStep;
            this.leastOfAll = leastOfAll;
            this.greatestOfAll = greatestOfAll;
        }

        abstract boolean isNumber(long v);

        abstract long amount(long v);

        /** The sum of two amounts. */
        abstract long plus(long a, long b);

        /** The amount of a less b. */
        abstract long apart(long a, long b);

        abstract int toInt(long v);

        /** A long that orders the numbers for GREATER and LESSER, where -0 is below 0. */
        abstract long rank(long v);

        /** A long that orders the numbers for ABOVE and BELOW, where -0 and 0 are alike. */
        abstract long level(long v);

        /** A step that not all sorts have. */
        abstract long furtherStepped(int kind, long v, long k);

        final long ofWidth(long bits) {
            return width == 32 ? (int) bits : bits;
        }

        final boolean hasStep(int step) {
            return step >= AMOUNT && step <= lastStep;
        }

        final long stepped(int kind, long v, long k) {
            switch (kind) {
                case AMOUNT:
                    return amount(v);
                case AT_LEAST:
                    return greater(v, k);
                case AT_MOST:
                    return lesser(v, k);
                default:
                    return furtherStepped(kind, v, k);
            }
        }

        final long greater(long a, long b) {
            return rank(a) >= rank(b) ? a : b;
        }

        final long lesser(long a, long b) {
            return rank(a) <= rank(b) ? a : b;
        }

        final boolean isAbove(long a, long b) {
            return level(a) > level(b);
        }
    }

    /** COUNTS and TALLIES. */
    private static final class Wrapping extends Numbers {
        Wrapping(int width) {
            super(width, AT_MOST, -1L << (width - 1), ~(-1L << (width - 1)));
        }

        boolean isNumber(long v) {
            return true;
        }

        long amount(long v) {
            return v < 0 ? ofWidth(-v) : v;
        }

        long plus(long a, long b) {
            return ofWidth(a + b);
        }

        long apart(long a, long b) {
            return amount(ofWidth(a - b));
        }

        int toInt(long v) {
            return (int) Math.max(Integer.MIN_VALUE, Math.min(Integer.MAX_VALUE, v));
        }

        long rank(long v) {
            return v;
        }

        long level(long v) {
            return v;
        }

        long furtherStepped(int kind, long v, long k) {
            return v;
        }
    }

    /**
     * SINGLES and DOUBLES, worked out on their bits, because the rules leave no way from bits to a
     * float or double and back. An amount's bits, read as a whole number, stand in the amounts' order.
     */
    private static final class Floating extends Numbers {
        /** Bits below the form's last one: two that round, and one for all that was cut off behind. */
        private static final int SPARE_BITS = 3;
        private static final long SPARE_MASK = 7;
        private static final long SPARE_HALF = 4;

        private final int fractionBits;
        private final long signMask;
        private final long infinity;
        private final int bias;
        private final long one;
        private final long half;
        /** The first bit of a significand, which the form leaves out. */
        private final long hidden;

        Floating(int width, int fractionBits) {
            super(width, LIKE, (-1L << (width - 1)) | infinityOf(width, fractionBits),
                    infinityOf(width, fractionBits));
            this.fractionBits = fractionBits;
            signMask = -1L << (width - 1);
            infinity = infinityOf(width, fractionBits);
            bias = (int) (infinity >>> fractionBits) >> 1;
            one = (long) bias << fractionBits;
            half = (long) (bias - 1) << fractionBits;
            hidden = 1L << fractionBits;
        }

        private static long infinityOf(int width, int fractionBits) {
            return ~(-1L << (width - 1)) & (-1L << fractionBits);
        }

        boolean isNumber(long v) {
            return amount(v) <= infinity;
        }

        long amount(long v) {
            return v & ~signMask;
        }

        long plus(long a, long b) {
            long more = Math.max(a, b);
            long less = Math.min(a, b);
            if (more == infinity) {
                return infinity;
            }
            int exponent = exponentOf(more);
            long total = significandOf(more) + shiftedRight(significandOf(less), exponent - exponentOf(less));
            if (total >= hidden << (SPARE_BITS + 1)) {
                total = shiftedRight(total, 1);
                exponent++;
            }
            return rounded(total, exponent);
        }

        long apart(long a, long b) {
            long amountA = amount(a);
            long amountB = amount(b);
            if (a < 0 != b < 0) {
                return plus(amountA, amountB);
            }
            return minus(Math.max(amountA, amountB), Math.min(amountA, amountB));
        }

        int toInt(long v) {
            long m = amount(v);
            if (m < one) {
                return 0;
            }
            int exponent = exponentOf(m) - bias;
            if (exponent > 30) {
                return v < 0 ? Integer.MIN_VALUE : Integer.MAX_VALUE;
            }
            long significand = hidden | (m & (hidden - 1));
            int whole = (int) (exponent <= fractionBits
                    ? significand >>> (fractionBits - exponent) : significand << (exponent - fractionBits));
            return v < 0 ? -whole : whole;
        }

        long rank(long v) {
            return v < 0 ? -1 - amount(v) : v;
        }

        long level(long v) {
            return v < 0 ? -amount(v) : v;
        }

        long furtherStepped(int kind, long v, long k) {
            long m = amount(v);
            switch (kind) {
                case DOWN:
                    return withSignOf(v, v < 0 ? raised(m) : cut(m));
                case UP:
                    return withSignOf(v, v < 0 ? cut(m) : raised(m));
                case NEAREST:
                    return withSignOf(v, nearest(m));
                case SIGN:
                    return m == 0 ? v : withSignOf(v, one);
                case LIKE:
                    return withSignOf(k, m);
                default:
                    return v;
            }
        }

        private long withSignOf(long v, long amount) {
            return v < 0 ? amount | signMask : amount;
        }

        /** How many of the last bits of an amount from 1 on stand behind the point; 0 or less where it is whole. */
        private int bitsBehindPoint(long m) {
            return fractionBits + bias - (int) (m >>> fractionBits);
        }

        /** The greatest whole amount that is not above m. */
        private long cut(long m) {
            if (m < one) {
                return 0;
            }
            int behind = bitsBehindPoint(m);
            return behind <= 0 ? m : m & (-1L << behind);
        }

        /** The least whole amount that is not below m. */
        private long raised(long m) {
            long below = cut(m);
            return below == m ? m : nextWhole(below, m);
        }

        private long nearest(long m) {
            if (m < one) {
                return m > half ? one : 0;
            }
            long below = cut(m);
            if (below == m) {
                return m;
            }
            int behind = bitsBehindPoint(m);
            long rest = m - below;
            long middle = 1L << (behind - 1);
            // Of 1 this bit is the last one of the exponent, which is as odd as the bias: 1 counts as odd.
            boolean odd = (below >>> behind & 1) == 1;
            return rest > middle || rest == middle && odd ? nextWhole(below, m) : below;
        }

        /** The whole amount behind below, where m, which is not whole, stands between both. */
        private long nextWhole(long below, long m) {
            // A carry out of the fraction makes the exponent greater, which is the next power of two.
            return m < one ? one : below + (1L << bitsBehindPoint(m));
        }

        /** The amounts too small for a hidden bit have the exponent of the least ones that have it. */
        private int exponentOf(long m) {
            return m < hidden ? 1 : (int) (m >>> fractionBits);
        }

        private long significandOf(long m) {
            long fraction = m & (hidden - 1);
            return (m < hidden ? fraction : fraction | hidden) << SPARE_BITS;
        }

        /** Shifted, with the last bit set where a bit was cut off, so that rounding still knows of it. */
        private static long shiftedRight(long significand, int places) {
            int shift = Math.min(places, 63);
            long shifted = significand >>> shift;
            return shifted << shift == significand ? shifted : shifted | 1;
        }

        private long minus(long more, long less) {
            if (more == less) {
                return 0;
            }
            if (more == infinity) {
                return infinity;
            }
            int exponent = exponentOf(more);
            long rest = significandOf(more) - shiftedRight(significandOf(less), exponent - exponentOf(less));
            while (exponent > 1 && rest < hidden << SPARE_BITS) {
                rest <<= 1;
                exponent--;
            }
            return rounded(rest, exponent);
        }

        private long rounded(long significand, int exponent) {
            if (exponent >= exponentOf(infinity)) {
                return infinity;
            }
            long units = significand >>> SPARE_BITS;
            long spare = significand & SPARE_MASK;
            if (spare > SPARE_HALF || spare == SPARE_HALF && (units & 1) == 1) {
                units++;
            }
            // The hidden bit, where there is one, is added to the exponent; a carry out of rounding, too.
            return ((long) (exponent - 1) << fractionBits) + units;
        }
    }
}
