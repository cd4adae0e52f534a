/** What the 512 calls that an object is used for can reach: the most readings, steps and alarms. */
public final class LongRunTest {
    private static final Check CHECK = new Check();
    private static final int CALLS = 512;

    public static void main(String[] args) {
        CHECK.sentence("An object is used for at most 512 calls after it has been made;");
        for (int sort = 0; sort < 4; sort++) {
            checkMostReadings(sort);
            checkMostSteps(sort);
        }
        CHECK.end();
    }

    /** One mounting, 509 readings, and two questions behind them. */
    private static void checkMostReadings(int sort) {
        WeatherMast mast = new WeatherMast();
        mast.mount(sort);
        int readings = CALLS - 3;
        for (int n = 1; n <= readings; n++) {
            mast.read(0, n);
        }
        CHECK.due("the sum", (long) readings * (readings + 1) / 2, mast.tell(0, 3));
        CHECK.due("readings since it was mounted", readings, mast.forget(0));
    }

    /** Each reading goes through six steps and is an alarm. */
    private static void checkMostSteps(int sort) {
        WeatherMast mast = new WeatherMast();
        mast.mount(sort);
        for (int n = 1; n <= 6; n++) {
            mast.step(0, 2, n);
        }
        mast.limits(0, 2, 1);
        int readings = CALLS - 12;
        for (int n = 1; n <= readings; n++) {
            mast.read(0, n);
        }
        CHECK.due("steps ever", 6 * readings, mast.count(3));
        CHECK.due("readings ever", readings, mast.count(1));
        CHECK.due("alarms ever", readings, mast.count(2));
        CHECK.due("alarms", readings, mast.alarms(0));
    }
}
