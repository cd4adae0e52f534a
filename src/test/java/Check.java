import java.util.function.LongSupplier;

/** Compares answers with those that are due, prints the wrong ones, and ends with exit code 1 if there was one. */
final class Check {
    static final int COUNTS = 0;
    static final int TALLIES = 1;
    static final int SINGLES = 2;
    static final int DOUBLES = 3;

    static final Class<? extends RuntimeException> INDEX = IndexOutOfBoundsException.class;
    static final Class<? extends RuntimeException> ARGUMENT = IllegalArgumentException.class;
    static final Class<? extends RuntimeException> STATE = IllegalStateException.class;
    static final Class<? extends RuntimeException> NONE_SUCH = java.util.NoSuchElementException.class;
    static final Class<? extends RuntimeException> UNSUPPORTED = UnsupportedOperationException.class;

    private int done;
    private int wrong;
    private String sentence = "";

    static long bits(float v) {
        return Float.floatToRawIntBits(v);
    }

    static long bits(double v) {
        return Double.doubleToRawLongBits(v);
    }

    /** A mast with an instrument of each sort, whose number is the sort's. */
    static WeatherMast ofEachSort() {
        WeatherMast mast = new WeatherMast();
        for (int sort = 0; sort < 4; sort++) {
            mast.mount(sort);
        }
        return mast;
    }

    /** The document's words that the checks from here on are for; DocumentTest looks for them there. */
    void sentence(String words) {
        sentence = "\"" + words + "\": ";
    }

    void due(String call, boolean want, boolean got) {
        due(call, want ? 1 : 0, got ? 1 : 0);
    }

    void due(String call, long want, long got) {
        done++;
        if (want != got) {
            wrong++;
            System.out.println(sentence + call + " answered " + got + ", due is " + want);
        }
    }

    void refused(String call, Class<? extends RuntimeException> want, LongSupplier made) {
        String got;
        try {
            got = "answered " + made.getAsLong();
        } catch (RuntimeException e) {
            got = e.getClass() == want ? null : "threw " + e.getClass().getSimpleName();
        }
        done++;
        if (got != null) {
            wrong++;
            System.out.println(sentence + call + " " + got + ", due is " + want.getSimpleName());
        }
    }

    void end() {
        System.out.println(wrong == 0 ? done + " answers are as due" : wrong + " answers are not as due");
        if (wrong != 0 || done == 0) {
            System.exit(1);
        }
    }
}
