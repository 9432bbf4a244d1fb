/** Promise 2: record. */
public final class RecordTest {
    private static final Check C = new Check("RecordTest");

    public static void main(String[] args) {
        numbersAsTheyCome();
        wrongInputs();
        fullAt150();
        C.end();
    }

    private static void numbersAsTheyCome() {
        HarvestSteps x = new HarvestSteps(5, 10, 0);
        x.form(0, true);
        C.due("record(0, 0)", x.record(0, 0), 0);
        C.due("record(9, 1000000)", x.record(9, 1000000), 1);
        C.due("record(4, 990)", x.record(4, 990), 2);
        C.due("record(4, 10)", x.record(4, 10), 3);
        C.due("get(0, 0)", x.get(0, 0), 0);
        C.due("get(1, 0)", x.get(1, 0), 1000000);
        C.due("get(2, 0)", x.get(2, 0), 990);
        C.due("get(3, 0)", x.get(3, 0), 10);
        C.due("list of set 4", x.list(0, 0, 0, 1000000, 4, 0), 2);
        C.numbers(x, 0, 3, 2);
        C.due("list of set 9", x.list(0, 0, 0, 1000000, 9, 0), 1);
        C.numbers(x, 0, 1);
        C.due("list of set 0", x.list(0, 0, 0, 1000000, 0, 0), 1);
        C.numbers(x, 0, 0);
    }

    private static void wrongInputs() {
        HarvestSteps x = new HarvestSteps(5, 10, 0);
        int[] sets = {-1, 10, 11, -2, Integer.MIN_VALUE, Integer.MAX_VALUE};
        for (int set : sets) {
            C.due("record(" + set + ", 10)", x.record(set, 10), HarvestSteps.RANGE);
        }
        int[] days = {-10, -1, 1, 9, 11, 999999, 1000001, 1000010, Integer.MIN_VALUE, Integer.MAX_VALUE};
        for (int day : days) {
            C.due("record(0, " + day + ")", x.record(0, day), HarvestSteps.RANGE);
        }
        C.due("record(0, 0), the first that could be", x.record(0, 0), 0);
    }

    private static void fullAt150() {
        HarvestSteps x = new HarvestSteps(5, 2, 0);
        x.form(0, true);
        for (int i = 0; i < 150; i++) {
            C.due("record no. " + i, x.record(i % 10, 2 * i), i);
        }
        C.due("record no. 150", x.record(0, 0), HarvestSteps.FULL);
        C.due("RANGE before FULL, day", x.record(0, 1), HarvestSteps.RANGE);
        C.due("RANGE before FULL, set", x.record(10, 0), HarvestSteps.RANGE);
        C.due("get(149, 0)", x.get(149, 0), 298);
        C.due("get(150, 0)", x.get(150, 0), -16);
        C.due("delete(149, 298)", x.delete(149, 298), 1);
        C.due("a deleted record leaves no room", x.record(0, 0), HarvestSteps.FULL);
    }
}
