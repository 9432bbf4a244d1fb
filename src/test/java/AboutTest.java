/** Promise 13: about. */
public final class AboutTest {
    private static final Check C = new Check("AboutTest");

    public static void main(String[] args) {
        HarvestSteps x = new HarvestSteps(2, 1, 60);
        x.form(0, true);
        for (int i = 0; i < 5; i++) {
            x.record(i % 2, i);
        }
        C.due("about(0, 0), none yet", x.about(0, 0), HarvestSteps.NONE);
        x.list(6, 0, 0, 9, -1, 100);
        tokenIs(x, 0, 6, 100, 3);
        x.list(2, 0, 0, 9, 0, 1000000000);
        tokenIs(x, 1, 2, 1000000000, 1);
        x.change(2, 9);
        x.change(4, 9);
        tokenIs(x, 0, 6, 100, 3);
        x.resume(6, 0, 130);
        tokenIs(x, 0, 6, 100, 3);
        tokenIs(x, 2, 6, 130, 1);
        x.resume(6, 0, 0);
        tokenIs(x, 2, 6, 130, 1);
        C.due("about(3, 0), a kept page makes none", x.about(3, 0), HarvestSteps.NONE);
        x.resume(6, 2, 190);
        C.due("about(3, 0), the last page makes none", x.about(3, 0), HarvestSteps.NONE);
        x.resume(6, 2, 191);
        tokenIs(x, 2, 6, 130, 1);
        int[] tokens = {-1, 3, 512, Integer.MIN_VALUE, Integer.MAX_VALUE};
        for (int token : tokens) {
            for (int what = -1; what < 4; what++) {
                C.due("about(" + token + ", " + what + ")", x.about(token, what), HarvestSteps.NONE);
            }
        }
        int[] whats = {-1, 3, Integer.MIN_VALUE, Integer.MAX_VALUE};
        for (int what : whats) {
            C.due("about(0, " + what + ")", x.about(0, what), HarvestSteps.NONE);
        }
        C.end();
    }

    private static void tokenIs(HarvestSteps x, int token, int harvester, int made, int left) {
        C.due("about(" + token + ", 0)", x.about(token, 0), harvester);
        C.due("about(" + token + ", 1)", x.about(token, 1), made);
        C.due("about(" + token + ", 2)", x.about(token, 2), left);
    }
}
