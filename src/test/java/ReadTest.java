/** Promise 5: read. */
public final class ReadTest {
    private static final Check CHECK = new Check();

    public static void main(String[] args) {
        checkBits();
        checkChain();
        checkRefusals();
        CHECK.end();
    }

    private static void checkBits() {
        CHECK.sentence("An instrument reads: what comes out of the chain.");
        WeatherMast mast = Check.ofEachSort();
        long[] bits = {0, 1, -1, 0x7fff_ffffL, 0x8000_0000L, 0xffff_ffffL, 1L << 32, Long.MIN_VALUE, Long.MAX_VALUE};
        for (long told : bits) {
            CHECK.due("a count " + told, (int) told, mast.read(0, told));
            CHECK.due("a tally " + told, told, mast.read(1, told));
        }
        long[] singles = {0, 1, 0x7f80_0000L, 0x7f7f_ffffL, 0x8000_0000L, 0xff80_0000L, 0x8000_0001L,
            0x7fff_ffff_0000_0001L, 0x1234_5678_ff80_0000L, 0xffff_ffff_3f80_0000L};
        for (long told : singles) {
            CHECK.due("a single " + told, (int) told, mast.read(2, told));
        }
        long[] doubles = {0, 1, 0x7ff0_0000_0000_0000L, 0x7fef_ffff_ffff_ffffL, Long.MIN_VALUE,
            0xfff0_0000_0000_0000L, 0x8000_0000_0000_0001L, 0x7f80_0001L};
        for (long told : doubles) {
            CHECK.due("a double " + told, told, mast.read(3, told));
        }
        CHECK.due("readings", bits.length * 2 + singles.length + doubles.length, mast.count(1));
    }

    private static void checkChain() {
        WeatherMast mast = Check.ofEachSort();
        mast.step(0, 0, 0);
        CHECK.due("a count's amount", 5, mast.read(0, -5));
        CHECK.due("the least count's amount", Integer.MIN_VALUE, mast.read(0, Integer.MIN_VALUE));
        mast.step(0, 2, -7);
        CHECK.due("a step that came later", -7, mast.read(0, -5));
        mast.step(3, 4, 0);
        CHECK.due("a double's up", Check.bits(-0.0), mast.read(3, Check.bits(-0.5)));
    }

    private static void checkRefusals() {
        WeatherMast mast = Check.ofEachSort();
        mast.step(2, 0, 0);
        mast.step(3, 0, 0);
        CHECK.sentence("IndexOutOfBoundsException when there is no such instrument;");
        for (int at : new int[] {-1, 4, 8, Integer.MIN_VALUE, Integer.MAX_VALUE}) {
            CHECK.refused("read of instrument " + at, Check.INDEX, () -> mast.read(at, 0));
        }
        CHECK.sentence("then IllegalArgumentException when the bits are no number.");
        for (long nan : new long[] {0x7f80_0001L, 0x7fc0_0000L, 0x7fff_ffffL, 0xff80_0001L, 0xffc0_0000L, -1}) {
            CHECK.refused("no single", Check.ARGUMENT, () -> mast.read(2, nan));
        }
        for (long nan : new long[] {0x7ff0_0000_0000_0001L, 0x7ff8_0000_0000_0000L, Long.MAX_VALUE,
            0xfff0_0000_0000_0001L, 0xfff8_0000_0000_0000L, -1}) {
            CHECK.refused("no double", Check.ARGUMENT, () -> mast.read(3, nan));
        }
        for (int what = 1; what < 4; what++) {
            CHECK.due("count after refusals " + what, 0, mast.count(what));
        }
        for (int sort = 2; sort < 4; sort++) {
            int asked = sort;
            CHECK.refused("nothing was read", Check.NONE_SUCH, () -> mast.reading(asked, 0));
            CHECK.due("nothing to forget", 0, mast.forget(sort));
        }
    }
}
