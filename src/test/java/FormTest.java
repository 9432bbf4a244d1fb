/** Promise 5: form. */
public final class FormTest {
    private static final Check C = new Check("FormTest");

    public static void main(String[] args) {
        HarvestSteps x = new HarvestSteps(5, 1, 0);
        x.record(0, 7);
        for (int f = 0; f < 6; f++) {
            C.due("get(0, " + f + ") before", x.get(0, f), -12);
            C.due("form(" + f + ", true)", x.form(f, true), 1);
            C.due("get(0, " + f + ") held", x.get(0, f), 7);
            C.due("list held", x.list(0, f, 0, 9, -1, 0), 1);
            C.due("form(" + f + ", true) again", x.form(f, true), 1);
            C.due("get(0, " + f + ") held", x.get(0, f), 7);
            C.due("form(" + f + ", false)", x.form(f, false), 1);
            C.due("get(0, " + f + ") no more", x.get(0, f), -12);
            C.due("list no more", x.list(0, f, 0, 9, -1, 0), -12);
            C.due("form(" + f + ", false) again", x.form(f, false), 1);
        }
        int[] forms = {-1, 6, 7, Integer.MIN_VALUE, Integer.MAX_VALUE};
        for (int f : forms) {
            C.due("form(" + f + ", true)", x.form(f, true), HarvestSteps.RANGE);
            C.due("form(" + f + ", false)", x.form(f, false), HarvestSteps.RANGE);
            C.due("get(0, " + f + ")", x.get(0, f), -12);
        }
        x.form(2, true);
        C.due("get(0, 2), one held alone", x.get(0, 2), 7);
        C.due("get(0, 3), one held alone", x.get(0, 3), -12);
        C.end();
    }
}
