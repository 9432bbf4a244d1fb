/** Promise 7: resume. */
public final class ResumeTest {
    private static final Check C = new Check("ResumeTest");

    public static void main(String[] args) {
        pageByPage();
        passesOverActsSinceTheList();
        keptPagesStay();
        tokensEnd();
        keptTokenMayHaveEnded();
        harvestersAreApart();
        formatNeedNotBeHeldAnyMore();
        wrongInputs();
        longestList();
        C.end();
    }

    private static HarvestSteps some(int page, int records) {
        HarvestSteps x = new HarvestSteps(page, 1, 60);
        x.form(0, true);
        for (int i = 0; i < records; i++) {
            x.record(0, 10);
        }
        return x;
    }

    private static void pageByPage() {
        HarvestSteps x = some(2, 5);
        C.due("list", x.list(4, 0, 0, 100, -1, 100), 2);
        C.numbers(x, 4, 0, 1);
        C.due("resume(4, 0, 110)", x.resume(4, 0, 110), 2);
        C.numbers(x, 4, 2, 3);
        C.due("token(4)", x.token(4), 1);
        C.due("resume(4, 1, 170), at the end of its life", x.resume(4, 1, 170), 1);
        C.numbers(x, 4, 4);
        C.due("token(4)", x.token(4), HarvestSteps.NONE);
        x = some(2, 4);
        x.list(0, 0, 0, 100, -1, 0);
        C.due("the last page whole", x.resume(0, 0, 0), 2);
        C.due("no token behind it", x.token(0), HarvestSteps.NONE);
    }

    private static void passesOverActsSinceTheList() {
        HarvestSteps x = some(3, 9);
        x.change(3, 10);
        x.list(0, 0, 0, 100, -1, 0);
        x.change(1, 50);
        x.change(4, 10);
        x.delete(6, 10);
        x.delete(7, 10);
        x.change(7, 10);
        x.change(8, 9);
        x.change(8, -1);
        x.record(0, 10);
        C.due("changed on the same day, passed over", x.resume(0, 0, 0), 2);
        C.numbers(x, 0, 3, 5);
        C.due("deleted or back again, passed over; a refused call is no act", x.resume(0, 1, 0), 1);
        C.numbers(x, 0, 8);
        C.due("a record made since does not come", x.token(0), HarvestSteps.NONE);
        x = some(2, 4);
        x.list(0, 0, 0, 100, -1, 0);
        x.change(2, 10);
        x.list(1, 0, 0, 100, -1, 0);
        C.due("acts since its own list", x.resume(0, 0, 0), 1);
        C.numbers(x, 0, 3);
        C.due("the act was before this list", x.resume(1, 1, 0), 2);
        C.numbers(x, 1, 2, 3);
    }

    private static void keptPagesStay() {
        HarvestSteps x = some(2, 6);
        x.delete(3, 10);
        x.list(0, 0, 0, 100, -1, 0);
        x.change(2, 11);
        C.due("resume first", x.resume(0, 0, 10), 1);
        x.change(3, 77);
        C.due("resume again", x.resume(0, 0, 20), 1);
        C.row(x, 0, 0, 0, 3);
        C.row(x, 0, 0, 1, 10);
        C.row(x, 0, 0, 2, 1);
        C.due("the token that it had then", x.token(0), 1);
        C.due("made at the first time", x.about(1, 1), 10);
        C.due("no token more", x.about(2, 0), HarvestSteps.NONE);
        x.resume(0, 1, 30);
        C.due("back to the page before", x.resume(0, 0, 40), 1);
        C.numbers(x, 0, 3);
        C.due("token(0)", x.token(0), 1);
    }

    private static void tokensEnd() {
        HarvestSteps x = some(1, 3);
        x.list(0, 0, 0, 100, -1, 100);
        C.due("too late", x.resume(0, 0, 161), -15);
        C.due("a code made no page", x.about(1, 0), HarvestSteps.NONE);
        C.due("it still holds", x.resume(0, 0, 160), 1);
        C.due("too late for a kept page too", x.resume(0, 0, 161), -15);
        C.due("earlier than it was made", x.resume(0, 0, 0), 1);
        C.due("the next one lives from its own making", x.resume(0, 1, 220), 1);
        C.due("and no longer", x.resume(0, 1, 221), -15);
        x = some(1, 2);
        x.list(0, 0, 0, 100, -1, 1000000000);
        C.due("at the last time", x.resume(0, 0, 1000000000), 1);
    }

    private static void keptTokenMayHaveEnded() {
        HarvestSteps x = some(1, 3);
        x.list(0, 0, 0, 100, -1, 100);
        x.resume(0, 0, 10);
        C.due("the page is kept", x.resume(0, 0, 160), 1);
        C.due("with its token", x.token(0), 1);
        C.due("that has ended", x.resume(0, 1, 71), -15);
        C.due("but held until then", x.resume(0, 1, 70), 1);
    }

    private static void harvestersAreApart() {
        HarvestSteps x = some(2, 5);
        x.list(0, 0, 0, 100, -1, 0);
        x.list(1, 0, 0, 100, -1, 0);
        C.due("another's token", x.resume(0, 1, 0), -15);
        C.due("another's token", x.resume(1, 0, 0), -15);
        C.due("one's own", x.resume(1, 1, 0), 2);
        C.numbers(x, 1, 2, 3);
        C.numbers(x, 0, 0, 1);
        C.due("token(0)", x.token(0), 0);
        C.due("token(1)", x.token(1), 2);
    }

    private static void formatNeedNotBeHeldAnyMore() {
        HarvestSteps x = some(2, 4);
        x.form(5, true);
        x.list(0, 5, 0, 100, -1, 0);
        x.form(5, false);
        C.due("resume", x.resume(0, 0, 0), 2);
        C.row(x, 0, 0, 3, 5);
    }

    private static void wrongInputs() {
        HarvestSteps x = some(1, 2);
        x.list(0, 0, 0, 100, -1, 0);
        int[] harvesters = {-1, 10, Integer.MIN_VALUE, Integer.MAX_VALUE};
        for (int h : harvesters) {
            C.due("resume of harvester " + h, x.resume(h, 0, 0), HarvestSteps.NONE);
            C.due("NONE before RANGE", x.resume(h, 0, -1), HarvestSteps.NONE);
        }
        int[] times = {-1, 1000000001, Integer.MIN_VALUE, Integer.MAX_VALUE};
        for (int t : times) {
            C.due("resume at " + t, x.resume(0, 0, t), HarvestSteps.RANGE);
            C.due("RANGE before -15", x.resume(0, 9, t), HarvestSteps.RANGE);
        }
        int[] tokens = {-1, 1, 2, 512, Integer.MIN_VALUE, Integer.MAX_VALUE};
        for (int token : tokens) {
            C.due("resume by " + token, x.resume(0, token, 0), -15);
        }
        C.due("no page by a code", x.token(0), 0);
        C.due("resume by 0", x.resume(0, 0, 0), 1);
    }

    private static void longestList() {
        HarvestSteps x = some(1, 150);
        C.due("list", x.list(0, 0, 0, 100, -1, 0), 1);
        for (int i = 0; i < 149; i++) {
            C.due("token no. " + i, x.token(0), i);
            C.due("resume no. " + i, x.resume(0, i, 0), 1);
        }
        C.numbers(x, 0, 149);
        C.due("token(0)", x.token(0), HarvestSteps.NONE);
        C.due("counted(0)", x.counted(0), 150);
    }
}
