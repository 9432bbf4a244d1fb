/** What the tests of boundary cases begin with. */
final class Given {
    static final int LEAST = Integer.MIN_VALUE;
    static final int MOST = Integer.MAX_VALUE;
    static final int LAST_DAY = 1000000;
    static final int LAST_TIME = 1000000000;

    /** No harvester has one of these numbers. */
    static final int[] NO_HARVESTERS = {-1, 10, -2, 11, LEAST, MOST};
    /** No time is one of these. */
    static final int[] NO_TIMES = {-1, LAST_TIME + 1, LEAST, MOST};

    private Given() { }

    /** Format 0 is held, and there is a record of set 0 for each of the days, in their order. */
    static HarvestSteps records(int page, int grain, int life, int... days) {
        HarvestSteps x = new HarvestSteps(page, grain, life);
        x.form(0, true);
        for (int day : days) {
            x.record(0, day);
        }
        return x;
    }

    /** Format 0 is held, and so many records of set 0 all have day 10, so that a list has them by their numbers. */
    static HarvestSteps alike(int page, int life, int count) {
        HarvestSteps x = new HarvestSteps(page, 1, life);
        x.form(0, true);
        for (int i = 0; i < count; i++) {
            x.record(0, 10);
        }
        return x;
    }

    /** All days and sets, in format 0; for a grain that divides the last day. */
    static int listAll(HarvestSteps x, int harvester, int t) {
        return x.list(harvester, 0, 0, LAST_DAY, -1, t);
    }
}
