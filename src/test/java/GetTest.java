/** Promise 10: get. */
public final class GetTest {
    private static final Check C = new Check("GetTest");

    public static void main(String[] args) {
        HarvestSteps x = new HarvestSteps(2, 10, 60);
        x.form(3, true);
        x.record(0, 0);
        x.record(0, 1000000);
        x.record(0, 0);
        x.delete(2, 0);
        C.due("get(0, 3)", x.get(0, 3), 0);
        C.due("get(1, 3)", x.get(1, 3), 1000000);
        C.due("get(2, 3), deleted on day 0", x.get(2, 3), -20);
        x.list(0, 3, 0, 0, -1, 0);
        x.change(0, 40);
        C.due("get(0, 3), as it is now", x.get(0, 3), 40);
        x.delete(0, 60);
        C.due("get(0, 3), deleted", x.get(0, 3), -80);
        x.change(2, 70);
        C.due("get(2, 3), there again", x.get(2, 3), 70);
        int[] forms = {-1, 0, 2, 4, 6, Integer.MIN_VALUE, Integer.MAX_VALUE};
        for (int f : forms) {
            C.due("get(0, " + f + ")", x.get(0, f), -12);
            C.due("the format is looked at first: get(9, " + f + ")", x.get(9, f), -12);
        }
        int[] records = {-1, 3, 149, 150, Integer.MIN_VALUE, Integer.MAX_VALUE};
        for (int record : records) {
            C.due("get(" + record + ", 3)", x.get(record, 3), -16);
        }
        C.end();
    }
}
