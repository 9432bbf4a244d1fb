/** The boundary cases of pages and tokens, as the Terms name them: one method a sentence. */
public final class BoundaryPagesTest {
    private static final Check C = new Check("BoundaryPagesTest");

    public static void main(String[] args) {
        nextPageSizeRecords();
        passesOverActsSince();
        actsBeforeTheListDoNotCount();
        fewerOrNone();
        whenItIsAskedForFirst();
        keptAsItIs();
        tokenWhileRecordsAreLeft();
        tokenThoughAllWillBePassedOver();
        tokenNumbers();
        tokenStillHoldsAtItsEnd();
        lifeIsCountedFromTheMaking();
        noSuchToken();
        anotherHarvestersToken();
        endedToken();
        codeLeavesAllAsItWas();
        keptPage();
        keptPageWithAnEndedToken();
        madeNow();
        C.end();
    }

    private static void nextPageSizeRecords() {
        C.sentence("takes the next PAGE SIZE records of the LIST (or what is left)");
        for (int count = 1; count <= 7; count++) {
            goThrough(3, count);
        }
        goThrough(1, 1);
        goThrough(1, 2);
        goThrough(50, 49);
        goThrough(50, 50);
        goThrough(50, 51);
        goThrough(50, 149);
        goThrough(50, 150);
        goThrough(49, 150);
    }

    /** Page by page, each with the numbers that follow, until the list's end and not beyond it. */
    private static void goThrough(int page, int count) {
        HarvestSteps x = Given.alike(page, 0, count);
        String run = count + " records by " + page + ": ";
        int begin = 0;
        int token = -1;
        while (begin < count) {
            int want = Math.min(page, count - begin);
            C.due(run + "page", token < 0 ? Given.listAll(x, 0, 0) : x.resume(0, token, 0), want);
            C.row(x, 0, 0, 0, begin);
            C.row(x, 0, want - 1, 0, begin + want - 1);
            C.noRow(x, 0, want, 0);
            begin += want;
            token++;
            C.due(run + "token", x.token(0), begin < count ? token : HarvestSteps.NONE);
        }
        C.due(run + "counted", x.counted(0), count);
    }

    private static void passesOverActsSince() {
        C.sentence("passes over those of them that had an ACT since the LIST was asked for");
        HarvestSteps x = Given.alike(3, 0, 9);
        Given.listAll(x, 0, 0);
        x.change(3, 10);
        x.delete(5, 10);
        x.delete(7, 99);
        x.change(7, 99);
        C.due("the first and the last of a page", x.resume(0, 0, 0), 1);
        C.numbers(x, 0, 4);
        C.due("one in the middle, deleted and there again", x.resume(0, 1, 0), 2);
        C.numbers(x, 0, 6, 8);
        C.due("passed()", x.passed(), 3);
        C.due("these come in a later span", x.list(0, 0, 11, 99, -1, 0), 1);
        C.numbers(x, 0, 7);
    }

    private static void actsBeforeTheListDoNotCount() {
        C.sentence("since the LIST was asked for, not before");
        HarvestSteps x = Given.alike(1, 0, 3);
        Given.listAll(x, 0, 0);
        x.change(1, 10);
        Given.listAll(x, 1, 0);
        x.change(2, 10);
        Given.listAll(x, 2, 0);
        C.due("list, act, list: of the older list", x.resume(0, 0, 0), 0);
        C.due("list, act, list: of the newer list", x.resume(1, 1, 0), 1);
        C.numbers(x, 1, 1);
        C.due("the act was the last call before the list", x.resume(2, 2, 0), 1);
        C.due("the act was the first call behind the list", x.resume(1, x.token(1), 0), 0);
        C.due("no act since", x.resume(2, x.token(2), 0), 1);
        C.numbers(x, 2, 2);
    }

    private static void fewerOrNone() {
        C.sentence("it may have fewer, or none");
        HarvestSteps x = Given.alike(2, 0, 7);
        Given.listAll(x, 0, 0);
        x.change(2, 10);
        x.change(3, 10);
        x.change(4, 10);
        x.change(6, 10);
        C.due("none", x.resume(0, 0, 0), 0);
        C.noRow(x, 0, 0, 0);
        C.due("its token", x.token(0), 1);
        C.due("fewer, and none of the next page's instead", x.resume(0, 1, 0), 1);
        C.numbers(x, 0, 5);
        C.due("its token", x.token(0), 2);
        C.due("none, on the last page", x.resume(0, 2, 0), 0);
        C.noRow(x, 0, 0, 0);
        C.due("no token", x.token(0), HarvestSteps.NONE);
        C.due("none again, kept", x.resume(0, 0, 0), 0);
        C.due("its token", x.token(0), 1);
        C.due("counted(0)", x.counted(0), 3);
    }

    private static void whenItIsAskedForFirst() {
        C.sentence("A PAGE, when it is asked for first, takes the next PAGE SIZE records");
        HarvestSteps x = Given.alike(2, 0, 4);
        Given.listAll(x, 0, 0);
        C.due("resume before the acts", x.resume(0, 0, 0), 2);
        x.change(2, 20);
        x.delete(3, 20);
        C.due("resume behind the acts", x.resume(0, 0, 0), 2);
        C.numbers(x, 0, 2, 3);
        C.due("passed()", x.passed(), 0);
    }

    private static void keptAsItIs() {
        C.sentence("It is kept as it is: a record, its DAY, whether it was DELETED");
        HarvestSteps x = Given.records(2, 1, 0, 1, 2, 3, 4);
        x.delete(1, 2);
        x.delete(3, 4);
        Given.listAll(x, 0, 0);
        x.change(0, 50);
        x.change(1, 60);
        pageIs(x, 0, 1, 0);
        pageIs(x, 1, 2, 1);
        x.resume(0, 0, 0);
        x.delete(2, 70);
        x.change(3, 80);
        C.due("resume again", x.resume(0, 0, 0), 2);
        C.row(x, 0, 0, 0, 2);
        C.row(x, 0, 0, 1, 3);
        C.row(x, 0, 0, 2, 0);
        C.row(x, 0, 1, 0, 3);
        C.row(x, 0, 1, 1, 4);
        C.row(x, 0, 1, 2, 1);
    }

    /** On the first page of a list of one record a day, a record stands at the place of its number. */
    private static void pageIs(HarvestSteps x, int place, int day, int deleted) {
        C.row(x, 0, place, 0, place);
        C.row(x, 0, place, 1, day);
        C.row(x, 0, place, 2, deleted);
    }

    private static void tokenWhileRecordsAreLeft() {
        C.sentence("While records of the LIST are left behind a PAGE it has a TOKEN for the next one");
        for (int page = 1; page <= 50; page += 7) {
            HarvestSteps x = Given.alike(page, 0, page);
            Given.listAll(x, 0, 0);
            C.due("none is left, page " + page, x.token(0), HarvestSteps.NONE);
            C.due("no token was made", x.about(0, 0), HarvestSteps.NONE);
            x.record(0, 10);
            Given.listAll(x, 0, 0);
            C.due("one is left, page " + page, x.token(0), 0);
            x.resume(0, 0, 0);
            C.due("none is left behind the second page", x.token(0), HarvestSteps.NONE);
        }
    }

    private static void tokenThoughAllWillBePassedOver() {
        C.sentence("(also such as will be passed over)");
        HarvestSteps x = Given.alike(1, 0, 3);
        Given.listAll(x, 0, 0);
        x.change(1, 10);
        x.change(2, 10);
        C.due("resume", x.resume(0, 0, 0), 0);
        C.due("the one that is left will be passed over", x.token(0), 1);
        C.due("how many are left", x.about(1, 2), 1);
        C.due("resume", x.resume(0, 1, 0), 0);
        C.due("none is left", x.token(0), HarvestSteps.NONE);
    }

    private static void tokenNumbers() {
        C.sentence("tokens are numbered from 0 on, as they are made");
        HarvestSteps x = Given.alike(1, 0, 3);
        Given.listAll(x, 5, 0);
        C.due("the first", x.token(5), 0);
        x.list(5, 0, 0, 9, -1, 0);
        x.resume(5, 1, 0);
        x.resume(4, 0, 0);
        x.resume(5, 0, 1);
        Given.listAll(x, 3, 0);
        C.due("a code makes none", x.token(3), 1);
        x.record(1, 10);
        x.list(2, 0, 0, 10, 1, 0);
        C.due("a page without a token", x.token(2), HarvestSteps.NONE);
        x.resume(5, 0, 0);
        C.due("it made none", x.token(5), 2);
        x.resume(5, 0, 0);
        x.resume(3, 1, 0);
        C.due("a kept page makes none", x.token(3), 3);
        x.resume(5, 2, 0);
        Given.listAll(x, 5, 0);
        C.due("a last page makes none", x.token(5), 4);
    }

    private static void holdsUntil(int life, int made) {
        String run = "life " + life + ", made at " + made + ": ";
        int end = made + life;
        HarvestSteps x = Given.alike(1, life, 3);
        Given.listAll(x, 0, made);
        if (end + 1 <= Given.LAST_TIME) {
            C.due(run + "a second behind its end", x.resume(0, 0, end + 1), -15);
        }
        C.due(run + "at its end", x.resume(0, 0, Math.min(end, Given.LAST_TIME)), 1);
        C.due(run + "at its making", x.resume(0, 0, made), 1);
    }

    private static void tokenStillHoldsAtItsEnd() {
        C.sentence("A TOKEN ENDS so many seconds (its LIFE) after ...; at that time it still holds");
        holdsUntil(0, 0);
        holdsUntil(0, 7);
        holdsUntil(1, 7);
        holdsUntil(60, 0);
        holdsUntil(1000000, 0);
        holdsUntil(0, 1000000000);
        holdsUntil(1000000, 998999999);
        holdsUntil(1000000, 999000000);
        holdsUntil(1000000, 999000001);
        holdsUntil(1000000, 1000000000);
    }

    private static void lifeIsCountedFromTheMaking() {
        C.sentence("after the time at which it was made");
        HarvestSteps x = Given.alike(1, 10, 3);
        Given.listAll(x, 0, 100);
        x.resume(0, 0, 105);
        C.due("the second token was made at the time of the resume", x.about(1, 1), 105);
        C.due("to use the first again does not lengthen its life", x.resume(0, 0, 111), -15);
        C.due("the second one's end", x.resume(0, 1, 115), 1);
        C.due("behind the second one's end", x.resume(0, 1, 116), -15);
    }

    private static void noSuchToken() {
        C.sentence("CODE -15 if there is none such");
        HarvestSteps x = Given.alike(1, 0, 2);
        C.due("none was made", x.resume(0, 0, 0), -15);
        Given.listAll(x, 0, 0);
        C.due("too small", x.resume(0, -1, 0), -15);
        C.due("too large", x.resume(0, 1, 0), -15);
        C.due("least", x.resume(0, Given.LEAST, 0), -15);
        C.due("most", x.resume(0, Given.MOST, 0), -15);
        C.due("there is one", x.resume(0, 0, 0), 1);
        C.due("the last page made none", x.resume(0, 1, 0), -15);
    }

    private static void anotherHarvestersToken() {
        C.sentence("it is another harvester's");
        HarvestSteps x = Given.alike(1, 0, 3);
        Given.listAll(x, 4, 0);
        for (int h = 0; h < 10; h++) {
            C.due("resume of " + h + ", not asked for yet", x.resume(h, 0, 0), h == 4 ? 1 : -15);
        }
        for (int h = 0; h < 10; h++) {
            C.due("resume of " + h + ", kept", x.resume(h, 0, 0), h == 4 ? 1 : -15);
            C.due("resume of " + h + ", a resume's token", x.resume(h, 1, 0), h == 4 ? 1 : -15);
        }
    }

    private static void endedToken() {
        C.sentence("or it has ENDED");
        HarvestSteps x = Given.alike(1, 5, 3);
        Given.listAll(x, 0, 20);
        C.due("not asked for yet", x.resume(0, 0, 26), -15);
        C.due("long ago", x.resume(0, 0, 1000000000), -15);
        C.due("asked for in time, though later calls were told before", x.resume(0, 0, 25), 1);
        C.due("a kept page", x.resume(0, 0, 26), -15);
    }

    private static void codeLeavesAllAsItWas() {
        C.sentence("CODE -15 ... Else the PAGE behind it; a CODE leaves all as it was");
        HarvestSteps x = Given.alike(1, 5, 3);
        Given.listAll(x, 0, 0);
        Given.listAll(x, 1, 0);
        x.change(1, 11);
        C.due("ended", x.resume(0, 0, 6), -15);
        C.due("another's", x.resume(0, 1, 0), -15);
        C.due("none such", x.resume(0, 2, 0), -15);
        C.numbers(x, 0, 0);
        C.due("token(0)", x.token(0), 0);
        C.due("counted(0)", x.counted(0), 1);
        C.due("passed()", x.passed(), 0);
        C.due("no token was made", x.about(2, 0), HarvestSteps.NONE);
    }

    private static void keptPage() {
        C.sentence("kept as it was, if it was asked for already (with the TOKEN that it had then)");
        HarvestSteps x = Given.alike(2, 9, 6);
        Given.listAll(x, 0, 0);
        x.change(2, 20);
        C.due("asked for first", x.resume(0, 0, 3), 1);
        x.change(3, 20);
        C.due("asked for again", x.resume(0, 0, 5), 1);
        C.numbers(x, 0, 3);
        C.row(x, 0, 0, 1, 10);
        C.due("its token", x.token(0), 1);
        C.due("made when it was asked for first", x.about(1, 1), 3);
        C.due("the page behind that", x.resume(0, 1, 5), 2);
        C.due("back, from the last page", x.resume(0, 0, 9), 1);
        C.due("its token", x.token(0), 1);
        C.due("passed()", x.passed(), 1);
    }

    private static void keptPageWithAnEndedToken() {
        C.sentence("though that may have ENDED");
        HarvestSteps x = Given.alike(1, 10, 3);
        Given.listAll(x, 0, 100);
        x.resume(0, 0, 50);
        C.due("its token has ended", x.resume(0, 1, 61), -15);
        C.due("the page is answered", x.resume(0, 0, 110), 1);
        C.numbers(x, 0, 1);
        C.due("with that token, and none new", x.token(0), 1);
        C.due("made when it was made", x.about(1, 1), 50);
        C.due("no token more", x.about(2, 1), HarvestSteps.NONE);
    }

    private static void madeNow() {
        C.sentence("else made now");
        HarvestSteps x = Given.alike(1, 100, 4);
        Given.listAll(x, 0, 0);
        x.change(1, 20);
        C.due("with the acts until now", x.resume(0, 0, 40), 0);
        C.due("its token was made now", x.about(1, 1), 40);
        x.change(2, 20);
        C.due("with the acts until now", x.resume(0, 1, 41), 0);
        C.due("without acts", x.resume(0, 2, 42), 1);
        C.numbers(x, 0, 3);
    }
}
