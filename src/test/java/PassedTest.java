/** Promise 12: passed. */
public final class PassedTest {
    private static final Check C = new Check("PassedTest");

    public static void main(String[] args) {
        HarvestSteps x = new HarvestSteps(2, 1, 60);
        x.form(0, true);
        for (int i = 0; i < 6; i++) {
            x.record(0, i);
        }
        x.change(3, 6);
        x.list(0, 0, 0, 9, -1, 0);
        x.list(1, 0, 0, 9, -1, 0);
        C.due("passed(), acts before the list", x.passed(), 0);
        x.change(0, 8);
        x.change(2, 8);
        x.change(2, 9);
        x.delete(4, 8);
        C.due("passed(), no page was asked for since", x.passed(), 0);
        x.resume(0, 0, 61);
        x.resume(1, 0, 0);
        C.due("passed(), codes make no pages", x.passed(), 0);
        x.resume(0, 0, 0);
        C.due("passed(), two of a page", x.passed(), 2);
        x.resume(0, 0, 0);
        C.due("passed(), a kept page passes over nothing", x.passed(), 2);
        x.resume(0, 2, 0);
        C.due("passed(), none on this page", x.passed(), 2);
        x.resume(1, 1, 0);
        C.due("passed(), of all harvesters", x.passed(), 4);
        x.list(2, 0, 0, 9, -1, 0);
        C.due("passed(), a new list", x.passed(), 4);
        C.end();
    }
}
