/** Promise 8: token. */
public final class TokenTest {
    private static final Check C = new Check("TokenTest");

    public static void main(String[] args) {
        HarvestSteps x = new HarvestSteps(2, 1, 60);
        x.form(0, true);
        for (int i = 0; i < 5; i++) {
            x.record(0, i);
        }
        C.due("token(0), no page", x.token(0), HarvestSteps.NONE);
        x.list(0, 0, 0, 9, -1, 0);
        C.due("token(0)", x.token(0), 0);
        C.due("token(1), another harvester", x.token(1), HarvestSteps.NONE);
        x.list(1, 0, 0, 9, -1, 0);
        C.due("token(1), numbered over all harvesters", x.token(1), 1);
        x.list(0, 0, 0, 9, -1, 0);
        C.due("token(0), of the latest list", x.token(0), 2);
        x.list(0, 0, 0, 9, 10, 0);
        x.resume(0, 1, 0);
        x.resume(0, 0, 61);
        C.due("token(0), codes are no pages", x.token(0), 2);
        x.resume(0, 0, 0);
        C.due("token(0), of the older list's second page", x.token(0), 3);
        x.list(0, 0, 0, 1, -1, 0);
        C.due("token(0), a whole list on one page", x.token(0), HarvestSteps.NONE);
        x.change(2, 8);
        x.change(3, 8);
        x.change(4, 8);
        x.resume(1, 1, 0);
        C.due("token(1), an empty page", x.token(1), 4);
        C.due("resume(1, 4, 0), empty too", x.resume(1, 4, 0), 0);
        C.due("token(1), the last page", x.token(1), HarvestSteps.NONE);
        int[] harvesters = {-1, 10, Integer.MIN_VALUE, Integer.MAX_VALUE};
        for (int h : harvesters) {
            C.due("token(" + h + ")", x.token(h), HarvestSteps.NONE);
        }
        C.end();
    }
}
