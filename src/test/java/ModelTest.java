import java.util.Random;
import java.util.function.LongSupplier;

/** Promises 1 to 13 together: runs of 512 chosen calls, each answered as the model answers it. */
public final class ModelTest {
    private static final int RUNS = 3000;
    private static final int CALLS = 512;

    private final Random random;
    private final WeatherMast mast = new WeatherMast();
    private final Model model = new Model();
    private final int[] sorts = new int[8];
    /** Numbers that differ little, so that limits, swings and halves meet. */
    private final long[] pool = new long[12];
    private int mounted;
    private String call;
    private LongSupplier got;
    private LongSupplier want;

    private ModelTest(long seed) {
        random = new Random(seed);
        for (int i = 0; i < pool.length; i++) {
            pool[i] = random.nextLong();
        }
    }

    public static void main(String[] args) {
        int wrong = 0;
        for (int run = 0; run < RUNS; run++) {
            wrong += new ModelTest(run).wrongAnswers(run) ? 1 : 0;
        }
        System.out.println(wrong == 0 ? RUNS + " runs are as due" : wrong + " runs are not as due");
        if (wrong != 0) {
            System.exit(1);
        }
    }

    private boolean wrongAnswers(int run) {
        for (int i = 0; i < CALLS; i++) {
            choose();
            String gotten = answer(got);
            String due = answer(want);
            if (!gotten.equals(due)) {
                System.out.println("run " + run + " call " + i + ": " + call + " answered " + gotten + ", due is " + due);
                return true;
            }
        }
        return false;
    }

    private static String answer(LongSupplier made) {
        try {
            return Long.toString(made.getAsLong());
        } catch (RuntimeException e) {
            return "throws." + e.getClass().getSimpleName();
        }
    }

    private void set(String name, LongSupplier gotten, LongSupplier due) {
        call = name;
        got = gotten;
        want = due;
    }

    private void choose() {
        int at = instrument();
        int sort = at >= 0 && at < mounted ? sorts[at] : random.nextInt(4);
        switch (mounted == 0 ? 0 : random.nextInt(24)) {
            case 0:
                chooseMount();
                break;
            case 1:
                chooseStep(at, sort);
                break;
            case 2:
                int leader = random.nextBoolean() ? at : instrument();
                int followed = random.nextInt(5) == 0 ? random.nextInt(11) - 1 : new int[] {1, 2, 7}[random.nextInt(3)];
                set("follow(" + at + ", " + followed + ", " + leader + ")",
                        () -> mast.follow(at, followed, leader), () -> model.follow(at, followed, leader));
                break;
            case 3:
                chooseLimits(at, sort);
                break;
            case 4:
                int i = random.nextInt(20) - 2;
                set("reading(" + at + ", " + i + ")", () -> mast.reading(at, i), () -> model.reading(at, i));
                break;
            case 5:
                set("whole(" + at + ")", () -> mast.whole(at), () -> model.whole(at));
                break;
            case 6:
                int asked = random.nextInt(6) - 1;
                set("widest(" + asked + ")", () -> mast.widest(asked), () -> model.widest(asked));
                break;
            case 7:
                if (random.nextInt(4) == 0) {
                    set("forget(" + at + ")", () -> mast.forget(at), () -> model.forget(at));
                } else {
                    set("alarms(" + at + ")", () -> mast.alarms(at), () -> model.alarms(at));
                }
                break;
            case 8:
                int what = random.nextInt(6) - 1;
                set("count(" + what + ")", () -> mast.count(what), () -> model.count(what));
                break;
            case 9:
            case 10:
            case 11:
            case 12:
                int told = random.nextInt(20) == 0 ? random.nextInt(8) - 2 : random.nextInt(4);
                set("tell(" + at + ", " + told + ")", () -> mast.tell(at, told), () -> model.tell(at, told));
                break;
            default:
                long bits = bits(sort);
                set("read(" + at + ", " + bits + ")", () -> mast.read(at, bits), () -> model.read(at, bits));
        }
    }

    private void chooseMount() {
        int sort = random.nextInt(10) == 0 ? random.nextInt(8) - 2 : random.nextInt(4);
        if (sort >= 0 && sort < 4 && mounted < 8) {
            sorts[mounted] = sort;
            mounted++;
        }
        set("mount(" + sort + ")", () -> mast.mount(sort), () -> model.mount(sort));
    }

    private void chooseStep(int at, int sort) {
        int step = random.nextInt(10) == 0 ? random.nextInt(12) - 2 : random.nextInt(sort < 2 ? 3 : 8);
        long k = bits(sort);
        set("step(" + at + ", " + step + ", " + k + ")", () -> mast.step(at, step, k), () -> model.step(at, step, k));
    }

    private void chooseLimits(int at, int sort) {
        long low = bits(sort);
        long high = bits(sort);
        set("limits(" + at + ", " + low + ", " + high + ")",
                () -> mast.limits(at, low, high) ? 1 : 0, () -> model.limits(at, low, high) ? 1 : 0);
    }

    private int instrument() {
        return random.nextInt(30) == 0 ? random.nextInt(12) - 2 : random.nextInt(Math.max(1, mounted));
    }

    private long bits(int sort) {
        switch (sort) {
            case 0:
            case 1:
                return wholeBits();
            case 2:
                return random.nextInt(4) == 0 ? random.nextLong() << 32 | singleBits() & 0xffff_ffffL : singleBits();
            default:
                return doubleBits();
        }
    }

    private long wholeBits() {
        long[] edges = {0, 1, -1, Integer.MIN_VALUE, Integer.MAX_VALUE, Long.MIN_VALUE, Long.MAX_VALUE, 1L << 32,
            0x8000_0000L, 0xffff_ffffL};
        int kind = random.nextInt(4);
        return kind == 0 ? edges[random.nextInt(edges.length)] : kind == 1 ? random.nextInt(9) - 4
            : kind == 2 ? pool[random.nextInt(pool.length)] : random.nextLong();
    }

    private long singleBits() {
        float[] edges = {0f, -0f, Float.MIN_VALUE, -Float.MIN_VALUE, Float.MIN_NORMAL, Float.MAX_VALUE, -Float.MAX_VALUE,
            Float.POSITIVE_INFINITY, Float.NEGATIVE_INFINITY, 0.5f, -0.5f, 1f, -1f, 2147483648f, 8388608f, Float.NaN};
        switch (random.nextInt(6)) {
            case 0:
                return Check.bits(edges[random.nextInt(edges.length)]);
            case 1:
                return Check.bits((random.nextInt(41) - 20) / 4f);
            case 2:
                return Check.bits((float) random.nextGaussian() * (1 << random.nextInt(30)));
            case 3:
                return (int) pool[random.nextInt(pool.length)] + random.nextInt(5) - 2;
            case 4:
                return Check.bits((random.nextInt(1 << 25) - (1 << 24)) / 2f);
            default:
                return random.nextInt();
        }
    }

    private long doubleBits() {
        double[] edges = {0, -0.0, Double.MIN_VALUE, -Double.MIN_VALUE, Double.MIN_NORMAL, Double.MAX_VALUE,
            -Double.MAX_VALUE, Double.POSITIVE_INFINITY, Double.NEGATIVE_INFINITY, 0.5, -0.5, 1, -1, 2147483648.0,
            -2147483649.0, 4503599627370496.0, Double.NaN};
        switch (random.nextInt(6)) {
            case 0:
                return Check.bits(edges[random.nextInt(edges.length)]);
            case 1:
                return Check.bits((random.nextInt(41) - 20) / 4.0);
            case 2:
                return Check.bits(random.nextGaussian() * (1L << random.nextInt(60)));
            case 3:
                return pool[random.nextInt(pool.length)] + random.nextInt(5) - 2;
            case 4:
                return Check.bits((random.nextLong() >> 10) / 2.0);
            default:
                return random.nextLong();
        }
    }
}
