/** Promise 6: list. */
public final class ListTest {
    private static final Check C = new Check("ListTest");

    public static void main(String[] args) {
        inOrderOfDaysThenNumbers();
        spanHasItsEnds();
        sets();
        codesInTheirOrder();
        wrongInputs();
        firstPage();
        fullAt30();
        C.end();
    }

    private static HarvestSteps some(int page) {
        HarvestSteps x = new HarvestSteps(page, 10, 60);
        x.form(1, true);
        x.record(0, 30);
        x.record(1, 10);
        x.record(0, 20);
        x.record(1, 10);
        x.record(2, 20);
        return x;
    }

    private static void inOrderOfDaysThenNumbers() {
        HarvestSteps x = some(50);
        C.due("list", x.list(0, 1, 0, 1000000, -1, 0), 5);
        C.numbers(x, 0, 1, 3, 2, 4, 0);
        x.change(1, 20);
        x.delete(2, 20);
        C.due("list as they are now", x.list(0, 1, 0, 1000000, -1, 0), 5);
        C.numbers(x, 0, 3, 1, 2, 4, 0);
        C.row(x, 0, 2, 2, 1);
        C.row(x, 0, 1, 1, 20);
    }

    private static void spanHasItsEnds() {
        HarvestSteps x = some(50);
        C.due("list 10 to 20", x.list(0, 1, 10, 20, -1, 0), 4);
        C.numbers(x, 0, 1, 3, 2, 4);
        C.due("list 20 to 20", x.list(0, 1, 20, 20, -1, 0), 2);
        C.numbers(x, 0, 2, 4);
        C.due("list 20 to 30", x.list(0, 1, 20, 30, -1, 0), 3);
        C.due("list 0 to 0", x.list(0, 1, 0, 0, -1, 0), -14);
        C.due("list 40 to 1000000", x.list(0, 1, 40, 1000000, -1, 0), -14);
        x.delete(4, 1000000);
        C.due("list 40 to 1000000", x.list(0, 1, 40, 1000000, -1, 0), 1);
        x.record(0, 0);
        C.due("list 0 to 0", x.list(0, 1, 0, 0, -1, 0), 1);
        C.numbers(x, 0, 5);
    }

    private static void sets() {
        HarvestSteps x = some(50);
        C.due("list of set 0", x.list(0, 1, 0, 100, 0, 0), 2);
        C.numbers(x, 0, 2, 0);
        C.due("list of set 1", x.list(0, 1, 0, 100, 1, 0), 2);
        C.numbers(x, 0, 1, 3);
        C.due("list of set 1, of other days", x.list(0, 1, 20, 100, 1, 0), -14);
        C.due("list of set 9, none in it", x.list(0, 1, 0, 100, 9, 0), -14);
    }

    private static void codesInTheirOrder() {
        HarvestSteps x = some(50);
        C.due("NONE is first", x.list(10, 9, 5, 0, 10, -1), HarvestSteps.NONE);
        C.due("RANGE is before codes", x.list(0, 9, 5, 0, 10, -1), HarvestSteps.RANGE);
        C.due("-11 is before -12", x.list(0, 9, 5, 50, 10, 0), -11);
        C.due("-11 is before -12, from behind to", x.list(0, 0, 50, 40, 10, 0), -11);
        C.due("-12 is before -13", x.list(0, 0, 40, 50, 10, 0), -12);
        C.due("-13 is before -14", x.list(0, 1, 40, 50, 10, 0), -13);
        C.due("-14", x.list(0, 1, 40, 50, 9, 0), -14);
        C.due("no page by a code", x.token(0), HarvestSteps.NONE);
        C.noRow(x, 0, 0, 0);
    }

    private static void wrongInputs() {
        HarvestSteps x = some(50);
        int[] harvesters = {-1, 10, Integer.MIN_VALUE, Integer.MAX_VALUE};
        for (int h : harvesters) {
            C.due("list of harvester " + h, x.list(h, 1, 0, 100, -1, 0), HarvestSteps.NONE);
        }
        int[] times = {-1, 1000000001, Integer.MIN_VALUE, Integer.MAX_VALUE};
        for (int t : times) {
            C.due("list at " + t, x.list(0, 1, 0, 100, -1, t), HarvestSteps.RANGE);
        }
        int[] days = {-10, 5, 1000001, 1000010, Integer.MIN_VALUE, Integer.MAX_VALUE};
        for (int day : days) {
            C.due("list from " + day, x.list(0, 1, day, 1000000, -1, 0), -11);
            C.due("list to " + day, x.list(0, 1, 0, day, -1, 0), -11);
        }
        int[] forms = {-1, 0, 2, 6, Integer.MIN_VALUE, Integer.MAX_VALUE};
        for (int f : forms) {
            C.due("list of format " + f, x.list(0, f, 0, 100, -1, 0), -12);
        }
        int[] sets = {-2, 10, Integer.MIN_VALUE, Integer.MAX_VALUE};
        for (int set : sets) {
            C.due("list of set " + set, x.list(0, 1, 0, 100, set, 0), -13);
        }
        C.due("list at the first time", x.list(0, 1, 0, 100, -1, 0), 5);
        C.due("list at the last time", x.list(9, 1, 0, 100, -1, 1000000000), 5);
    }

    private static void firstPage() {
        HarvestSteps x = some(4);
        C.due("list of 5 by 4", x.list(0, 1, 0, 100, -1, 0), 4);
        C.numbers(x, 0, 1, 3, 2, 4);
        C.due("token", x.token(0), 0);
        C.due("list of 4 by 4", x.list(0, 1, 10, 20, -1, 0), 4);
        C.due("no token where nothing is left", x.token(0), HarvestSteps.NONE);
        C.due("no second token was made", x.about(1, 0), HarvestSteps.NONE);
    }

    private static void fullAt30() {
        HarvestSteps x = some(5);
        for (int i = 0; i < 30; i++) {
            C.due("a code takes no room", x.list(0, 1, 40, 50, -1, 0), -14);
            C.due("list no. " + i, x.list(i % 10, 1, 0, 100, -1, 0), 5);
        }
        C.due("list no. 30", x.list(0, 1, 0, 20, -1, 0), HarvestSteps.FULL);
        C.due("list no. 30", x.list(5, 1, 0, 100, -1, 0), HarvestSteps.FULL);
        C.due("NONE before FULL", x.list(10, 1, 0, 100, -1, 0), HarvestSteps.NONE);
        C.due("RANGE before FULL", x.list(0, 1, 0, 100, -1, -1), HarvestSteps.RANGE);
        C.due("-11 before FULL", x.list(0, 1, 100, 0, -1, 0), -11);
        C.due("-12 before FULL", x.list(0, 0, 0, 100, -1, 0), -12);
        C.due("-13 before FULL", x.list(0, 1, 0, 100, 10, 0), -13);
        C.due("-14 before FULL", x.list(0, 1, 40, 50, -1, 0), -14);
        C.numbers(x, 0, 1, 3, 2, 4, 0);
        C.due("counted(0)", x.counted(0), 15);
    }
}
