/** Calls that are wrong in more than one way: the exception that the document names first is thrown. */
public final class OrderTest {
    private static final Check CHECK = new Check();
    private static final int[] NO_INSTRUMENTS = {-1, 8, Integer.MIN_VALUE, Integer.MAX_VALUE};
    private static final int[] NO_STEPS = {-1, 8, Integer.MIN_VALUE, Integer.MAX_VALUE};

    public static void main(String[] args) {
        WeatherMast full = full();
        checkMount(full);
        checkStep(full);
        checkFollow(full);
        checkReadings();
        checkTell();
        checkWidest();
        CHECK.end();
    }

    /** Eight instruments with six steps each, which have read nothing. */
    private static WeatherMast full() {
        WeatherMast mast = new WeatherMast();
        for (int at = 0; at < 8; at++) {
            mast.mount(at % 4);
            for (int n = 0; n < 6; n++) {
                mast.step(at, 0, 0);
            }
        }
        return mast;
    }

    private static void checkMount(WeatherMast full) {
        CHECK.sentence("IllegalArgumentException when there is no such sort; "
                + "UnsupportedOperationException when there are eight.");
        for (int sort : new int[] {-1, 4, Integer.MIN_VALUE, Integer.MAX_VALUE}) {
            CHECK.refused("no such sort, and there are eight", Check.ARGUMENT, () -> full.mount(sort));
        }
        CHECK.refused("there are eight", Check.UNSUPPORTED, () -> full.mount(3));
    }

    private static void checkStep(WeatherMast full) {
        CHECK.sentence("IndexOutOfBoundsException when there is no such instrument; then IllegalArgumentException when "
                + "there is no such step of its sort, or it takes K and K is no number; then IllegalStateException "
                + "when it has six.");
        for (int at : NO_INSTRUMENTS) {
            CHECK.refused("no instrument, no step", Check.INDEX, () -> full.step(at, 8, 0));
            CHECK.refused("no instrument, no number", Check.INDEX, () -> full.step(at, 1, -1));
            CHECK.refused("no instrument", Check.INDEX, () -> full.step(at, 0, 0));
        }
        for (int at = 0; at < 8; at++) {
            int asked = at;
            for (int step : NO_STEPS) {
                CHECK.refused("no step, and it has six", Check.ARGUMENT, () -> full.step(asked, step, 0));
            }
            for (int step = 3; step < 8; step++) {
                int further = step;
                Class<? extends RuntimeException> want = at % 4 < 2 ? Check.ARGUMENT : Check.STATE;
                CHECK.refused("a further step, and it has six", want, () -> full.step(asked, further, 0));
            }
            for (int step : new int[] {1, 2, 7}) {
                Class<? extends RuntimeException> want = at % 4 < 2 && step < 3 ? Check.STATE : Check.ARGUMENT;
                CHECK.refused("no number, and it has six", want, () -> full.step(asked, step, -1));
            }
            CHECK.refused("K does not matter, it has six", Check.STATE, () -> full.step(asked, 0, -1));
        }
    }

    private static void checkFollow(WeatherMast full) {
        CHECK.sentence("IndexOutOfBoundsException when there is no such instrument, or no such other; then "
                + "IllegalArgumentException when there is no such step of its sort, it takes no K, or the other one is "
                + "of another sort; then IllegalStateException when it has six.");
        for (int none : NO_INSTRUMENTS) {
            CHECK.refused("no instrument, no step", Check.INDEX, () -> full.follow(none, 8, 0));
            CHECK.refused("no instrument, no other, no step", Check.INDEX, () -> full.follow(none, -1, none));
            CHECK.refused("no other, no step", Check.INDEX, () -> full.follow(0, 8, none));
            CHECK.refused("no other, no K", Check.INDEX, () -> full.follow(0, 0, none));
            CHECK.refused("no other, and it has six", Check.INDEX, () -> full.follow(0, 1, none));
            CHECK.refused("no instrument", Check.INDEX, () -> full.follow(none, 1, 0));
        }
        for (int at = 0; at < 8; at++) {
            int asked = at;
            int alike = (at + 4) % 8;
            int another = (at + 1) % 8;
            for (int step : NO_STEPS) {
                CHECK.refused("no step, and it has six", Check.ARGUMENT, () -> full.follow(asked, step, alike));
            }
            for (int step : new int[] {0, 3, 4, 5, 6}) {
                CHECK.refused("no K, and it has six", Check.ARGUMENT, () -> full.follow(asked, step, alike));
            }
            for (int step : new int[] {1, 2, 7}) {
                CHECK.refused("another sort, and it has six", Check.ARGUMENT, () -> full.follow(asked, step, another));
                Class<? extends RuntimeException> want = at % 4 < 2 && step == 7 ? Check.ARGUMENT : Check.STATE;
                CHECK.refused("it has six", want, () -> full.follow(asked, step, alike));
            }
        }
    }

    private static void checkReadings() {
        WeatherMast mast = Check.ofEachSort();
        for (int at : new int[] {-1, 4, Integer.MIN_VALUE, Integer.MAX_VALUE}) {
            CHECK.sentence("IndexOutOfBoundsException when there is no such instrument; then IllegalArgumentException "
                    + "when the bits are no number.");
            CHECK.refused("no instrument, no number", Check.INDEX, () -> mast.read(at, -1));
            CHECK.sentence("IndexOutOfBoundsException when there is no such instrument; then NoSuchElementException "
                    + "when there is none such, or it is kept no more.");
            CHECK.refused("no instrument, none such", Check.INDEX, () -> mast.reading(at, -1));
            CHECK.refused("no instrument, kept no more", Check.INDEX, () -> mast.reading(at, 16));
            CHECK.sentence("IndexOutOfBoundsException when there is no such instrument; then NoSuchElementException "
                    + "when it has read nothing.");
            CHECK.refused("no instrument", Check.INDEX, () -> mast.whole(at));
            CHECK.sentence("IndexOutOfBoundsException when there is no such instrument; then IllegalArgumentException "
                    + "when one of both is no number.");
            CHECK.refused("no instrument, no numbers", Check.INDEX, () -> mast.limits(at, -1, -1) ? 1 : 0);
        }
    }

    private static void checkTell() {
        CHECK.sentence("IndexOutOfBoundsException when there is no such instrument; then IllegalArgumentException for "
                + "another what; then NoSuchElementException when it has read nothing.");
        WeatherMast mast = Check.ofEachSort();
        for (int what : new int[] {-1, 4, Integer.MIN_VALUE, Integer.MAX_VALUE}) {
            CHECK.refused("no instrument, another what", Check.INDEX, () -> mast.tell(4, what));
            CHECK.refused("another what, nothing read", Check.ARGUMENT, () -> mast.tell(3, what));
        }
        CHECK.refused("no instrument", Check.INDEX, () -> mast.tell(-1, 0));
        CHECK.refused("nothing read", Check.NONE_SUCH, () -> mast.tell(3, 3));
    }

    private static void checkWidest() {
        CHECK.sentence("IllegalArgumentException when there is no such sort; NoSuchElementException when none of them "
                + "has read anything.");
        for (int sort : new int[] {-1, 4, Integer.MIN_VALUE, Integer.MAX_VALUE}) {
            CHECK.refused("no sort, no instrument", Check.ARGUMENT, () -> new WeatherMast().widest(sort));
            CHECK.refused("no sort, nothing read", Check.ARGUMENT, () -> Check.ofEachSort().widest(sort));
        }
        CHECK.refused("nothing read", Check.NONE_SUCH, () -> Check.ofEachSort().widest(3));
    }
}
