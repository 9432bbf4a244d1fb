/** Promise 11: counted. */
public final class CountedTest {
    private static final Check C = new Check("CountedTest");

    public static void main(String[] args) {
        HarvestSteps x = new HarvestSteps(2, 1, 60);
        x.form(0, true);
        for (int i = 0; i < 5; i++) {
            x.record(0, i);
        }
        C.due("counted(0)", x.counted(0), 0);
        x.list(0, 0, 0, 9, -1, 0);
        C.due("counted(0), the first page", x.counted(0), 2);
        x.change(2, 9);
        x.resume(0, 0, 0);
        C.due("counted(0), without the one passed over", x.counted(0), 3);
        x.resume(0, 0, 0);
        x.resume(0, 0, 0);
        C.due("counted(0), a page as often as it was answered", x.counted(0), 5);
        x.resume(0, 1, 0);
        C.due("counted(0), the last page", x.counted(0), 6);
        x.resume(0, 0, 61);
        x.resume(0, 7, 0);
        x.resume(0, 0, -1);
        x.list(0, 1, 0, 9, -1, 0);
        C.due("counted(0), no codes", x.counted(0), 6);
        x.list(9, 0, 0, 0, -1, 0);
        C.due("counted(9)", x.counted(9), 1);
        C.due("counted(0)", x.counted(0), 6);
        C.due("counted(1)", x.counted(1), 0);
        int[] harvesters = {-1, 10, Integer.MIN_VALUE, Integer.MAX_VALUE};
        for (int h : harvesters) {
            C.due("counted(" + h + ")", x.counted(h), HarvestSteps.NONE);
        }
        C.end();
    }
}
