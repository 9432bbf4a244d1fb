/** Promise 3: change. */
public final class ChangeTest {
    private static final Check C = new Check("ChangeTest");

    public static void main(String[] args) {
        changesTheDay();
        bringsBackDeleted();
        wrongInputs();
        C.end();
    }

    private static void changesTheDay() {
        HarvestSteps x = new HarvestSteps(5, 10, 0);
        x.form(0, true);
        x.record(3, 20);
        x.record(3, 20);
        C.due("change(0, 30)", x.change(0, 30), 1);
        C.due("get(0, 0)", x.get(0, 0), 30);
        C.due("get(1, 0), the other one", x.get(1, 0), 20);
        C.due("change(0, 30), the same day", x.change(0, 30), 1);
        C.due("change(0, 20), a day before", x.change(0, 20), HarvestSteps.STATE);
        C.due("get(0, 0)", x.get(0, 0), 30);
        C.due("change(0, 1000000), the last day", x.change(0, 1000000), 1);
        C.due("get(0, 0)", x.get(0, 0), 1000000);
        C.due("its set stays", x.list(0, 0, 1000000, 1000000, 3, 0), 1);
    }

    private static void bringsBackDeleted() {
        HarvestSteps x = new HarvestSteps(5, 1, 0);
        x.form(0, true);
        x.record(0, 5);
        x.delete(0, 8);
        C.due("change(0, 7), before the day of its end", x.change(0, 7), HarvestSteps.STATE);
        C.due("get(0, 0)", x.get(0, 0), -28);
        C.due("change(0, 8)", x.change(0, 8), 1);
        C.due("get(0, 0)", x.get(0, 0), 8);
        C.due("delete(0, 8) again", x.delete(0, 8), 1);
        C.due("change(0, 9)", x.change(0, 9), 1);
        C.due("list", x.list(0, 0, 0, 10, -1, 0), 1);
        C.row(x, 0, 0, 2, 0);
    }

    private static void wrongInputs() {
        HarvestSteps x = new HarvestSteps(5, 10, 0);
        x.form(0, true);
        x.record(0, 50);
        int[] records = {-1, 1, 149, 150, Integer.MIN_VALUE, Integer.MAX_VALUE};
        for (int record : records) {
            C.due("change(" + record + ", 60)", x.change(record, 60), HarvestSteps.NONE);
            C.due("NONE before RANGE: change(" + record + ", 61)", x.change(record, 61), HarvestSteps.NONE);
        }
        int[] days = {-10, 5, 55, 61, 1000001, 1000010, Integer.MIN_VALUE, Integer.MAX_VALUE};
        for (int day : days) {
            C.due("change(0, " + day + ")", x.change(0, day), HarvestSteps.RANGE);
        }
        C.due("change(0, 40)", x.change(0, 40), HarvestSteps.STATE);
        C.due("get(0, 0), nothing changed", x.get(0, 0), 50);
    }
}
