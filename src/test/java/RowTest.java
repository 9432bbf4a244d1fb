/** Promise 9: row. */
public final class RowTest {
    private static final Check C = new Check("RowTest");

    public static void main(String[] args) {
        ordinary();
        pageStaysAsItIs();
        wrongInputs();
        C.end();
    }

    private static HarvestSteps some() {
        HarvestSteps x = new HarvestSteps(2, 10, 60);
        x.form(4, true);
        x.record(0, 20);
        x.record(0, 10);
        x.record(0, 30);
        x.delete(0, 20);
        return x;
    }

    private static void line(HarvestSteps x, int h, int i, int number, int day, int deleted, int form) {
        C.row(x, h, i, 0, number);
        C.row(x, h, i, 1, day);
        C.row(x, h, i, 2, deleted);
        C.row(x, h, i, 3, form);
    }

    private static void ordinary() {
        HarvestSteps x = some();
        x.list(7, 4, 0, 100, -1, 0);
        line(x, 7, 0, 1, 10, 0, 4);
        line(x, 7, 1, 0, 20, 1, 4);
        C.noRow(x, 7, 2, 0);
        x.resume(7, 0, 0);
        line(x, 7, 0, 2, 30, 0, 4);
        C.noRow(x, 7, 1, 0);
        x.form(5, true);
        x.list(7, 5, 30, 30, -1, 0);
        line(x, 7, 0, 2, 30, 0, 5);
    }

    private static void pageStaysAsItIs() {
        HarvestSteps x = some();
        x.list(0, 4, 0, 100, -1, 0);
        x.change(0, 50);
        x.delete(1, 60);
        x.form(4, false);
        x.list(0, 4, 0, 100, -1, 0);
        x.list(1, 4, 0, 100, -1, 0);
        line(x, 0, 0, 1, 10, 0, 4);
        line(x, 0, 1, 0, 20, 1, 4);
        C.noRow(x, 1, 0, 0);
    }

    private static void wrongInputs() {
        HarvestSteps x = some();
        C.noRow(x, 0, 0, 0);
        x.list(0, 4, 0, 100, -1, 0);
        int[] harvesters = {-1, 1, 9, 10, Integer.MIN_VALUE, Integer.MAX_VALUE};
        for (int h : harvesters) {
            C.noRow(x, h, 0, 0);
        }
        int[] places = {-1, 2, 3, 50, Integer.MIN_VALUE, Integer.MAX_VALUE};
        for (int i : places) {
            for (int what = 0; what < 4; what++) {
                C.noRow(x, 0, i, what);
            }
        }
        int[] whats = {-1, 4, Integer.MIN_VALUE, Integer.MAX_VALUE};
        for (int what : whats) {
            C.noRow(x, 0, 0, what);
        }
        x.change(2, 40);
        C.due("an empty page", x.resume(0, 0, 0), 0);
        for (int what = 0; what < 4; what++) {
            C.noRow(x, 0, 0, what);
        }
    }
}
