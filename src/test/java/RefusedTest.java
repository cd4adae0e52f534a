import java.util.Arrays;
import java.util.function.Consumer;
import java.util.function.LongSupplier;
import java.util.function.ToLongFunction;

/**
 * A refused call, of each method and for each reason, in masts of four states: it throws what is due, and behind it
 * the mast answers every question, and every call that would show its chains and limits, as a twin that was spared.
 */
public final class RefusedTest {
    private static final Check CHECK = new Check();
    private static final long NO_SINGLE = 0x7f80_0001L;
    private static final long NO_DOUBLE = 0x7ff0_0000_0000_0001L;
    private static final long[] SINGLE_PROBES = {Check.bits(-3.5f), Check.bits(-0f), 0, Check.bits(2.5f),
        Check.bits(Float.POSITIVE_INFINITY)};
    private static final long[] DOUBLE_PROBES = {Check.bits(-3.5), Check.bits(-0.0), 0, Check.bits(2.5),
        Check.bits(Double.POSITIVE_INFINITY)};
    private static final long[] WHOLE_PROBES = {-4, 0, 3, Integer.MIN_VALUE, Integer.MAX_VALUE};

    private final Consumer<WeatherMast> state;
    private final String name;

    private RefusedTest(String name, Consumer<WeatherMast> state) {
        this.name = name;
        this.state = state;
    }

    public static void main(String[] args) {
        CHECK.sentence("A call that throws changes nothing.");
        new RefusedTest("empty", mast -> { }).checkNone();
        new RefusedTest("unread", RefusedTest::mountEach).checkUnread();
        new RefusedTest("in use", RefusedTest::use).checkInUse();
        new RefusedTest("full", RefusedTest::fill).checkFull();
        CHECK.end();
    }

    private static void mountEach(WeatherMast mast) {
        for (int sort = 0; sort < 4; sort++) {
            mast.mount(sort);
        }
    }

    private static void use(WeatherMast mast) {
        mountEach(mast);
        for (int at = 0; at < 4; at++) {
            mast.step(at, 2, probes(at)[3]);
            mast.follow(at, 1, at);
            mast.limits(at, probes(at)[0], probes(at)[2]);
            for (long told : probes(at)) {
                mast.read(at, told);
            }
        }
    }

    private static void fill(WeatherMast mast) {
        mountEach(mast);
        mountEach(mast);
        for (int at = 0; at < 8; at++) {
            for (int n = 0; n < 6; n++) {
                mast.step(at, n == 3 ? 0 : 1, 0);
            }
            mast.limits(at, probes(at)[2], probes(at)[3]);
            for (int n = 0; n < 17; n++) {
                mast.read(at, probes(at)[n % 5]);
            }
        }
    }

    private static long[] probes(int at) {
        return at % 4 < 2 ? WHOLE_PROBES : at % 4 == 2 ? SINGLE_PROBES : DOUBLE_PROBES;
    }

    private void checkNone() {
        checkNoSuchSort();
        for (int at : new int[] {0, -1, 7, 8, Integer.MIN_VALUE, Integer.MAX_VALUE}) {
            checkNoSuchInstrument(at);
        }
        for (int sort = 0; sort < 4; sort++) {
            int asked = sort;
            check("widest, none mounted", Check.NONE_SUCH, mast -> mast.widest(asked));
        }
    }

    private void checkUnread() {
        checkNoSuchSort();
        checkNoSuchInstrument(4);
        checkNoSuchInstrument(-1);
        checkNoNumbers();
        checkNoSuchSteps();
        for (int sort = 0; sort < 4; sort++) {
            int at = sort;
            check("reading, none read", Check.NONE_SUCH, mast -> mast.reading(at, 0));
            check("whole, none read", Check.NONE_SUCH, mast -> mast.whole(at));
            check("widest, none read", Check.NONE_SUCH, mast -> mast.widest(at));
            check("tell another what", Check.ARGUMENT, mast -> mast.tell(at, 4));
            for (int what = 0; what < 4; what++) {
                int told = what;
                check("tell, none read", Check.NONE_SUCH, mast -> mast.tell(at, told));
            }
        }
    }

    private void checkInUse() {
        checkNoSuchSort();
        checkNoSuchInstrument(4);
        checkNoSuchInstrument(-1);
        checkNoNumbers();
        checkNoSuchSteps();
        for (int sort = 0; sort < 4; sort++) {
            int at = sort;
            check("reading, not so many", Check.NONE_SUCH, mast -> mast.reading(at, 5));
            check("reading below 0", Check.NONE_SUCH, mast -> mast.reading(at, -1));
            check("tell another what", Check.ARGUMENT, mast -> mast.tell(at, -1));
            check("tell another what", Check.ARGUMENT, mast -> mast.tell(at, 4));
        }
    }

    private void checkFull() {
        checkNoSuchSort();
        checkNoSuchInstrument(8);
        checkNoSuchInstrument(-1);
        checkNoNumbers();
        checkNoSuchSteps();
        for (int at = 0; at < 8; at++) {
            int asked = at;
            check("a ninth instrument", Check.UNSUPPORTED, mast -> mast.mount(asked % 4));
            check("a seventh step", Check.STATE, mast -> mast.step(asked, 0, 0));
            check("a seventh step with K", Check.STATE, mast -> mast.step(asked, 2, 0));
            check("a seventh step that follows", Check.STATE, mast -> mast.follow(asked, 2, asked));
            check("kept no more", Check.NONE_SUCH, mast -> mast.reading(asked, 16));
        }
    }

    private void checkNoSuchSort() {
        for (int sort : new int[] {-1, 4}) {
            check("mount", Check.ARGUMENT, mast -> mast.mount(sort));
            check("widest", Check.ARGUMENT, mast -> mast.widest(sort));
        }
    }

    private void checkNoSuchInstrument(int at) {
        check("step", Check.INDEX, mast -> mast.step(at, 0, 0));
        check("follow", Check.INDEX, mast -> mast.follow(at, 1, 0));
        check("follow no other", Check.INDEX, mast -> mast.follow(0, 1, at));
        check("read", Check.INDEX, mast -> mast.read(at, 1));
        check("reading", Check.INDEX, mast -> mast.reading(at, 0));
        check("tell", Check.INDEX, mast -> mast.tell(at, 0));
        check("whole", Check.INDEX, mast -> mast.whole(at));
        check("limits", Check.INDEX, mast -> mast.limits(at, 1, 1) ? 1 : 0);
        check("forget", Check.INDEX, mast -> mast.forget(at));
        check("alarms", Check.INDEX, mast -> mast.alarms(at));
    }

    private void checkNoNumbers() {
        for (int at = 2; at < 4; at++) {
            int asked = at;
            long none = at == 2 ? NO_SINGLE : NO_DOUBLE;
            check("read no number", Check.ARGUMENT, mast -> mast.read(asked, none));
            for (int step : new int[] {1, 2, 7}) {
                check("K is no number", Check.ARGUMENT, mast -> mast.step(asked, step, none));
            }
            check("low is no number", Check.ARGUMENT, mast -> mast.limits(asked, none, probes(asked)[0]) ? 1 : 0);
            check("high is no number", Check.ARGUMENT, mast -> mast.limits(asked, probes(asked)[4], none) ? 1 : 0);
            check("both are no numbers", Check.ARGUMENT, mast -> mast.limits(asked, none, none) ? 1 : 0);
        }
    }

    private void checkNoSuchSteps() {
        for (int at = 0; at < 4; at++) {
            int asked = at;
            check("step too small", Check.ARGUMENT, mast -> mast.step(asked, -1, 0));
            check("step too large", Check.ARGUMENT, mast -> mast.step(asked, asked < 2 ? 3 : 8, 0));
            check("follow too small", Check.ARGUMENT, mast -> mast.follow(asked, -1, asked));
            check("follow too large", Check.ARGUMENT, mast -> mast.follow(asked, asked < 2 ? 7 : 8, asked));
            check("follow without K", Check.ARGUMENT, mast -> mast.follow(asked, 0, asked));
            check("follow another sort", Check.ARGUMENT, mast -> mast.follow(asked, 1, (asked + 1) % 4));
        }
    }

    private void check(String call, Class<? extends RuntimeException> want, ToLongFunction<WeatherMast> made) {
        WeatherMast asked = new WeatherMast();
        WeatherMast spared = new WeatherMast();
        state.accept(asked);
        state.accept(spared);
        CHECK.refused(name + ": " + call, want, () -> made.applyAsLong(asked));
        Answers due = new Answers();
        due.askAll(spared);
        Answers got = new Answers();
        got.askAll(asked);
        CHECK.due(name + ": number of answers behind " + call, due.size, got.size);
        CHECK.due(name + ": first other answer behind " + call, -1, Arrays.mismatch(due.given, got.given));
    }

    /** All that a mast shows of itself, asked first without and then with changing it. */
    private static final class Answers {
        final long[] given = new long[512];
        int size;

        void askAll(WeatherMast mast) {
            int mounted = mast.count(0);
            for (int n = 0; n < 4; n++) {
                int asked = n;
                add(() -> mast.count(asked));
                add(() -> mast.widest(asked));
            }
            for (int at = 0; at < mounted; at++) {
                askOf(mast, at);
            }
            for (int at = 0; at < mounted; at++) {
                probe(mast, at);
            }
            add(() -> mast.mount(0));
        }

        private void askOf(WeatherMast mast, int at) {
            for (int i = 0; i < 17; i++) {
                int asked = i;
                add(() -> mast.reading(at, asked));
            }
            for (int what = 0; what < 4; what++) {
                int asked = what;
                add(() -> mast.tell(at, asked));
            }
            add(() -> mast.alarms(at));
        }

        private void probe(WeatherMast mast, int at) {
            for (long told : probes(at)) {
                add(() -> mast.read(at, told));
            }
            add(() -> mast.alarms(at));
            add(() -> mast.step(at, 0, 0));
            add(() -> mast.forget(at));
        }

        private void add(LongSupplier call) {
            long answer;
            try {
                answer = call.getAsLong();
            } catch (RuntimeException e) {
                answer = e.getClass().getName().hashCode();
            }
            given[size] = answer;
            size++;
        }
    }
}
