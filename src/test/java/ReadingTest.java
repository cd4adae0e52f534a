/** Promise 6: reading. */
public final class ReadingTest {
    private static final Check CHECK = new Check();

    public static void main(String[] args) {
        WeatherMast mast = Check.ofEachSort();
        mast.step(0, 1, 3);
        CHECK.refused("no instrument", Check.INDEX, () -> mast.reading(4, 0));
        CHECK.refused("no instrument", Check.INDEX, () -> mast.reading(-1, -1));
        for (int i : new int[] {0, 1, -1, 15, 16, Integer.MIN_VALUE, Integer.MAX_VALUE}) {
            CHECK.refused("nothing was read", Check.NONE_SUCH, () -> mast.reading(0, i));
        }
        for (int n = 1; n <= 50; n++) {
            mast.read(0, n);
            mast.read(1, -n);
            for (int i = 0; i < Math.min(n, 16); i++) {
                CHECK.due("behind the chain", Math.max(3, n - i), mast.reading(0, i));
                CHECK.due("of tallies", i - n, mast.reading(1, i));
            }
            int beyond = Math.min(n, 16);
            CHECK.refused("beyond", Check.NONE_SUCH, () -> mast.reading(0, beyond));
            for (int i : new int[] {-1, 16, 17, 32, Integer.MIN_VALUE, Integer.MAX_VALUE}) {
                CHECK.refused("none such", Check.NONE_SUCH, () -> mast.reading(0, i));
            }
        }
        mast.read(2, Check.bits(-1f) & 0xffff_ffffL);
        CHECK.due("of singles", Check.bits(-1f), mast.reading(2, 0));
        mast.read(3, Check.bits(-0.0));
        CHECK.due("of doubles", Check.bits(-0.0), mast.reading(3, 0));
        CHECK.refused("of doubles", Check.NONE_SUCH, () -> mast.reading(3, 1));
        CHECK.end();
    }
}
