/** Promise 4: delete. */
public final class DeleteTest {
    private static final Check C = new Check("DeleteTest");

    public static void main(String[] args) {
        deletes();
        wrongInputs();
        C.end();
    }

    private static void deletes() {
        HarvestSteps x = new HarvestSteps(5, 10, 0);
        x.form(0, true);
        x.record(3, 20);
        x.record(3, 20);
        x.record(3, 20);
        C.due("delete(0, 30)", x.delete(0, 30), 1);
        C.due("get(0, 0)", x.get(0, 0), -50);
        C.due("get(1, 0), the other one", x.get(1, 0), 20);
        C.due("delete(1, 20), on its own day", x.delete(1, 20), 1);
        C.due("get(1, 0)", x.get(1, 0), -40);
        C.due("delete(2, 10), a day before", x.delete(2, 10), HarvestSteps.STATE);
        C.due("get(2, 0)", x.get(2, 0), 20);
        C.due("delete(0, 40), it is already", x.delete(0, 40), HarvestSteps.STATE);
        C.due("delete(0, 30), it is already", x.delete(0, 30), HarvestSteps.STATE);
        C.due("get(0, 0)", x.get(0, 0), -50);
        C.due("list", x.list(0, 0, 0, 100, 3, 0), 3);
        C.numbers(x, 0, 1, 2, 0);
        C.row(x, 0, 0, 2, 1);
        C.row(x, 0, 1, 2, 0);
        C.row(x, 0, 2, 2, 1);
        C.row(x, 0, 2, 1, 30);
        C.due("delete(2, 1000000)", x.delete(2, 1000000), 1);
        C.due("get(2, 0)", x.get(2, 0), -1000020);
    }

    private static void wrongInputs() {
        HarvestSteps x = new HarvestSteps(5, 10, 0);
        x.form(0, true);
        x.record(0, 50);
        x.record(0, 50);
        x.delete(1, 50);
        int[] records = {-1, 2, 149, 150, Integer.MIN_VALUE, Integer.MAX_VALUE};
        for (int record : records) {
            C.due("delete(" + record + ", 60)", x.delete(record, 60), HarvestSteps.NONE);
            C.due("NONE before RANGE: delete(" + record + ", 61)", x.delete(record, 61), HarvestSteps.NONE);
        }
        int[] days = {-10, 5, 55, 61, 1000001, 1000010, Integer.MIN_VALUE, Integer.MAX_VALUE};
        for (int day : days) {
            C.due("delete(0, " + day + ")", x.delete(0, day), HarvestSteps.RANGE);
            C.due("RANGE before STATE: delete(1, " + day + ")", x.delete(1, day), HarvestSteps.RANGE);
        }
        C.due("get(0, 0), nothing changed", x.get(0, 0), 50);
        C.due("get(1, 0), nothing changed", x.get(1, 0), -70);
    }
}
