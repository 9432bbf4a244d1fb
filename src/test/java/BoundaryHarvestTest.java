/** The boundary cases of promises 6 to 13: one method a sentence. */
public final class BoundaryHarvestTest {
    private static final Check C = new Check("BoundaryHarvestTest");

    public static void main(String[] args) {
        listOfNoHarvester();
        listAtNoTime();
        listFull();
        listFullBehindAllCodes();
        refusedListsTakeNoPlace();
        fullListLeavesAllAsItWas();
        resumeOfNoHarvester();
        resumeAtNoTime();
        refusedResumeLeavesAllAsItWas();
        tokenOfTheLatestPage();
        tokenNotByACode();
        tokenOfAPageWithoutOne();
        tokenWithoutAPage();
        rowPlaces();
        rowWhats();
        rowOfAnEmptyPage();
        rowWithoutAPage();
        rowOfTheLatestPage();
        getFormatFirst();
        getNoSuchRecord();
        getDeleted();
        getAsItIsNow();
        countedAsOftenAsAnswered();
        countedNone();
        passedInAllPages();
        aboutLeft();
        aboutTimes();
        aboutNoSuchToken();
        aboutAnotherWhat();
        C.end();
    }

    private static void listOfNoHarvester() {
        C.sentence("Promise 6: NONE if there is no such harvester");
        HarvestSteps x = Given.alike(50, 0, 1);
        for (int h : Given.NO_HARVESTERS) {
            C.due("list of " + h, Given.listAll(x, h, 0), HarvestSteps.NONE);
            C.due("NONE comes before RANGE", Given.listAll(x, h, -1), HarvestSteps.NONE);
            C.due("NONE comes before -11", x.list(h, 0, 9, 0, -1, 0), HarvestSteps.NONE);
            C.due("NONE comes before -12", x.list(h, 6, 0, 9, -1, 0), HarvestSteps.NONE);
            C.due("NONE comes before -13", x.list(h, 0, 0, 9, 10, 0), HarvestSteps.NONE);
            C.due("NONE comes before -14", x.list(h, 0, 0, 9, -1, 0), HarvestSteps.NONE);
        }
        C.due("list of 0", Given.listAll(x, 0, 0), 1);
        C.due("list of 9", Given.listAll(x, 9, 0), 1);
    }

    private static void listAtNoTime() {
        C.sentence("Promise 6: RANGE if there is no such time");
        HarvestSteps x = Given.alike(50, 0, 1);
        for (int t : Given.NO_TIMES) {
            C.due("list at " + t, Given.listAll(x, 0, t), HarvestSteps.RANGE);
            C.due("RANGE comes before -11", x.list(0, 0, 9, 0, -1, t), HarvestSteps.RANGE);
            C.due("RANGE comes before -12", x.list(0, 6, 0, 9, -1, t), HarvestSteps.RANGE);
            C.due("RANGE comes before -13", x.list(0, 0, 0, 9, 10, t), HarvestSteps.RANGE);
            C.due("RANGE comes before -14", x.list(0, 0, 0, 9, -1, t), HarvestSteps.RANGE);
        }
        C.due("list at 0", Given.listAll(x, 0, 0), 1);
        C.due("list at 1000000000", Given.listAll(x, 0, 1000000000), 1);
    }

    /** So many lists were asked for; harvesters take turns, so that places are counted over all of them. */
    private static HarvestSteps withLists(int lists) {
        HarvestSteps x = Given.records(1, 1, 0, 10, 20);
        for (int i = 0; i < lists; i++) {
            C.due("list number " + i, x.list(i % 10, 0, 0, i % 2 == 0 ? 10 : 20, -1, 0), 1);
        }
        return x;
    }

    private static void listFull() {
        C.sentence("Promise 6: FULL if there are 30 lists");
        HarvestSteps x = withLists(29);
        C.due("the 30th", Given.listAll(x, 0, 0), 1);
        for (int h = 0; h < 10; h++) {
            C.due("the 31st, of " + h, Given.listAll(x, h, 0), HarvestSteps.FULL);
        }
        C.due("another span", x.list(0, 0, 20, 20, -1, 0), HarvestSteps.FULL);
        C.due("to resume needs no room", x.resume(1, 0, 0), 1);
        x.delete(0, 30);
        x.delete(1, 30);
        C.due("lists that are through keep their places", Given.listAll(x, 0, 0), HarvestSteps.FULL);
    }

    private static void listFullBehindAllCodes() {
        C.sentence("Promise 6: FULL (behind all CODES)");
        HarvestSteps x = withLists(30);
        C.due("NONE", x.list(10, 0, 0, 20, -1, 0), HarvestSteps.NONE);
        C.due("RANGE", x.list(0, 0, 0, 20, -1, -1), HarvestSteps.RANGE);
        C.due("-11, a day that can't be", x.list(0, 0, -1, 20, -1, 0), -11);
        C.due("-11, from behind to", x.list(0, 0, 20, 19, -1, 0), -11);
        C.due("-12", x.list(0, 1, 0, 20, -1, 0), -12);
        C.due("-13", x.list(0, 0, 0, 20, 10, 0), -13);
        C.due("-14, of a span", x.list(0, 0, 11, 19, -1, 0), -14);
        C.due("-14, of a set", x.list(0, 0, 0, 20, 1, 0), -14);
        C.due("nothing is against it", x.list(0, 0, 0, 20, -1, 0), HarvestSteps.FULL);
    }

    private static void refusedListsTakeNoPlace() {
        C.sentence("Promise 6: FULL if there are 30 lists; a refused call is none of them");
        HarvestSteps x = withLists(29);
        for (int i = 0; i < 5; i++) {
            C.due("NONE", x.list(10, 0, 0, 20, -1, 0), HarvestSteps.NONE);
            C.due("RANGE", x.list(0, 0, 0, 20, -1, -1), HarvestSteps.RANGE);
            C.due("-11", x.list(0, 0, 20, 0, -1, 0), -11);
            C.due("-12", x.list(0, 1, 0, 20, -1, 0), -12);
            C.due("-13", x.list(0, 0, 0, 20, 10, 0), -13);
            C.due("-14", x.list(0, 0, 11, 19, -1, 0), -14);
        }
        C.due("the 30th", Given.listAll(x, 0, 0), 1);
        C.due("the 31st", Given.listAll(x, 0, 0), HarvestSteps.FULL);
    }

    private static void fullListLeavesAllAsItWas() {
        C.sentence("Promise 6: FULL; a refused call leaves all as it was");
        HarvestSteps x = withLists(30);
        C.due("list", x.list(1, 0, 20, 20, -1, 0), HarvestSteps.FULL);
        C.numbers(x, 1, 0);
        C.due("token(1)", x.token(1), 10);
        C.due("counted(1)", x.counted(1), 3);
        C.due("the last token", x.about(14, 0), 9);
        C.due("no token more", x.about(15, 0), HarvestSteps.NONE);
    }

    private static void resumeOfNoHarvester() {
        C.sentence("Promise 7: NONE (as list())");
        HarvestSteps x = Given.alike(1, 0, 2);
        Given.listAll(x, 0, 0);
        for (int h : Given.NO_HARVESTERS) {
            C.due("resume of " + h, x.resume(h, 0, 0), HarvestSteps.NONE);
            C.due("NONE comes before RANGE", x.resume(h, 0, -1), HarvestSteps.NONE);
            C.due("NONE comes before -15", x.resume(h, 1, 0), HarvestSteps.NONE);
        }
        C.due("there is such a harvester, though without a list", x.resume(9, 0, 0), -15);
    }

    private static void resumeAtNoTime() {
        C.sentence("Promise 7: RANGE (as list())");
        HarvestSteps x = Given.alike(1, 1000000, 2);
        Given.listAll(x, 0, 1000000000);
        for (int t : Given.NO_TIMES) {
            C.due("resume at " + t, x.resume(0, 0, t), HarvestSteps.RANGE);
            C.due("RANGE comes before -15, none such", x.resume(0, 1, t), HarvestSteps.RANGE);
            C.due("RANGE comes before -15, another's", x.resume(1, 0, t), HarvestSteps.RANGE);
        }
        C.due("resume at 1000000000", x.resume(0, 0, 1000000000), 1);
        C.due("resume at 0", x.resume(0, 0, 0), 1);
    }

    private static void refusedResumeLeavesAllAsItWas() {
        C.sentence("Promise 7: a refused call leaves all as it was");
        HarvestSteps x = Given.alike(1, 0, 3);
        Given.listAll(x, 0, 0);
        x.change(1, 11);
        C.due("NONE", x.resume(-1, 0, 0), HarvestSteps.NONE);
        C.due("RANGE", x.resume(0, 0, -1), HarvestSteps.RANGE);
        C.due("-15", x.resume(0, 0, 1), -15);
        C.numbers(x, 0, 0);
        C.due("token(0)", x.token(0), 0);
        C.due("counted(0)", x.counted(0), 1);
        C.due("passed()", x.passed(), 0);
        C.due("no token was made", x.about(1, 0), HarvestSteps.NONE);
    }

    private static void tokenOfTheLatestPage() {
        C.sentence("Promise 8: The TOKEN of the PAGE that a harvester was answered latest (by list or resume)");
        HarvestSteps x = Given.alike(1, 0, 4);
        Given.listAll(x, 0, 0);
        C.due("by list", x.token(0), 0);
        x.resume(0, 0, 0);
        C.due("by resume", x.token(0), 1);
        Given.listAll(x, 0, 0);
        C.due("by list again", x.token(0), 2);
        x.resume(0, 1, 0);
        C.due("by resume of the older list", x.token(0), 3);
        x.resume(0, 0, 0);
        C.due("by a kept page", x.token(0), 1);
        Given.listAll(x, 1, 0);
        C.due("another harvester's list", x.token(0), 1);
        C.due("is its own", x.token(1), 4);
    }

    private static void tokenNotByACode() {
        C.sentence("Promise 8: (by list or resume, not by a CODE)");
        HarvestSteps x = Given.alike(1, 0, 2);
        Given.listAll(x, 0, 0);
        C.due("-11", x.list(0, 0, 9, 0, -1, 0), -11);
        C.due("-12", x.list(0, 6, 0, 9, -1, 0), -12);
        C.due("-13", x.list(0, 0, 0, 9, 10, 0), -13);
        C.due("-14", x.list(0, 0, 0, 9, -1, 0), -14);
        C.due("-15", x.resume(0, 0, 1), -15);
        C.due("RANGE", Given.listAll(x, 0, -1), HarvestSteps.RANGE);
        C.due("token(0)", x.token(0), 0);
        C.numbers(x, 0, 0);
        C.due("a code alone is no page", x.list(1, 0, 0, 9, -1, 0), -14);
        C.due("token(1)", x.token(1), HarvestSteps.NONE);
        C.noRow(x, 1, 0, 0);
    }

    private static void tokenOfAPageWithoutOne() {
        C.sentence("Promise 8: NONE if that had none");
        HarvestSteps x = Given.alike(2, 0, 3);
        Given.listAll(x, 0, 0);
        x.resume(0, 0, 0);
        C.due("a last page", x.token(0), HarvestSteps.NONE);
        Given.listAll(x, 0, 0);
        C.due("a token again", x.token(0), 1);
        x.record(1, 10);
        x.list(0, 0, 0, 10, 1, 0);
        C.due("a list of one page", x.token(0), HarvestSteps.NONE);
    }

    private static void tokenWithoutAPage() {
        C.sentence("Promise 8: NONE if there was no such PAGE");
        HarvestSteps x = Given.alike(1, 0, 2);
        Given.listAll(x, 5, 0);
        for (int h = 0; h < 10; h++) {
            C.due("token(" + h + ")", x.token(h), h == 5 ? 0 : HarvestSteps.NONE);
        }
        for (int h : Given.NO_HARVESTERS) {
            C.due("token(" + h + ")", x.token(h), HarvestSteps.NONE);
        }
    }

    private static void rowPlaces() {
        C.sentence("Promise 9: the i-th record, from 0 on; NoSuchElementException if there is none such");
        HarvestSteps x = Given.alike(50, 0, 53);
        Given.listAll(x, 0, 0);
        int[] never = {-1, 50, 51, Given.LEAST, Given.MOST};
        for (int what = 0; what < 4; what++) {
            for (int i : never) {
                C.noRow(x, 0, i, what);
            }
        }
        C.row(x, 0, 0, 0, 0);
        C.row(x, 0, 49, 0, 49);
        x.change(50, 10);
        x.resume(0, 0, 0);
        C.row(x, 0, 0, 0, 51);
        C.row(x, 0, 1, 0, 52);
        for (int what = 0; what < 4; what++) {
            C.noRow(x, 0, 2, what);
        }
    }

    private static void rowWhats() {
        C.sentence("Promise 9: NoSuchElementException for another what");
        HarvestSteps x = new HarvestSteps(50, 1, 0);
        x.form(5, true);
        x.record(0, 0);
        x.record(0, 1000000);
        x.delete(1, 1000000);
        x.list(9, 5, 0, 1000000, -1, 0);
        int[] never = {-1, 4, Given.LEAST, Given.MOST};
        for (int what : never) {
            C.noRow(x, 9, 0, what);
            C.noRow(x, 9, 2, what);
        }
        int[][] rows = {{0, 0, 0, 5}, {1, 1000000, 1, 5}};
        for (int i = 0; i < rows.length; i++) {
            for (int what = 0; what < 4; what++) {
                C.row(x, 9, i, what, rows[i][what]);
            }
        }
    }

    private static void rowOfAnEmptyPage() {
        C.sentence("Promise 9: NoSuchElementException if there is none such, on a page of none");
        HarvestSteps x = Given.alike(2, 0, 4);
        Given.listAll(x, 0, 0);
        x.change(2, 10);
        x.change(3, 10);
        C.due("resume", x.resume(0, 0, 0), 0);
        for (int what = 0; what < 4; what++) {
            C.noRow(x, 0, 0, what);
        }
    }

    private static void rowWithoutAPage() {
        C.sentence("Promise 9: NoSuchElementException if there is none such, without a page");
        HarvestSteps x = Given.alike(50, 0, 1);
        C.due("no page by a code", x.list(0, 0, 0, 9, -1, 0), -14);
        for (int h = 0; h < 10; h++) {
            C.noRow(x, h, 0, 0);
        }
        Given.listAll(x, 0, 0);
        for (int h : Given.NO_HARVESTERS) {
            C.noRow(x, h, 0, 0);
        }
        C.noRow(x, 1, 0, 0);
        C.row(x, 0, 0, 0, 0);
    }

    private static void rowOfTheLatestPage() {
        C.sentence("Promise 9: Of that PAGE the i-th record");
        HarvestSteps x = Given.alike(3, 0, 4);
        Given.listAll(x, 0, 0);
        C.numbers(x, 0, 0, 1, 2);
        x.resume(0, 0, 0);
        C.numbers(x, 0, 3);
        C.due("a code", x.resume(0, 0, 1), -15);
        C.numbers(x, 0, 3);
        Given.listAll(x, 1, 0);
        C.numbers(x, 0, 3);
        C.numbers(x, 1, 0, 1, 2);
    }

    private static void getFormatFirst() {
        C.sentence("Promise 10: -12 as told (looked at first)");
        HarvestSteps x = Given.records(50, 1, 0, 5);
        int[] never = {-1, 1, 5, 6, Given.LEAST, Given.MOST};
        for (int form : never) {
            C.due("get(0, " + form + ")", x.get(0, form), -12);
            C.due("get(1, " + form + ")", x.get(1, form), -12);
            C.due("get(-1, " + form + ")", x.get(-1, form), -12);
        }
        C.due("get(0, 0)", x.get(0, 0), 5);
        C.due("get(1, 0)", x.get(1, 0), -16);
    }

    private static void getNoSuchRecord() {
        C.sentence("Promise 10: -16 if there is no such record");
        HarvestSteps x = Given.alike(50, 0, 149);
        int[] never = {-1, 149, 150, Given.LEAST, Given.MOST};
        for (int record : never) {
            C.due("get(" + record + ", 0)", x.get(record, 0), -16);
        }
        C.due("get(148, 0)", x.get(148, 0), 10);
        x.record(0, 11);
        C.due("get(149, 0)", x.get(149, 0), 11);
        C.due("get(150, 0)", x.get(150, 0), -16);
    }

    private static void getDeleted() {
        C.sentence("Promise 10: -20 less its DAY if it is DELETED");
        HarvestSteps x = Given.records(50, 1, 0, 0, 0, 0);
        x.delete(0, 0);
        x.delete(1, 1);
        x.delete(2, 1000000);
        C.due("on day 0", x.get(0, 0), -20);
        C.due("on day 1", x.get(1, 0), -21);
        C.due("on day 1000000", x.get(2, 0), -1000020);
        C.due("a format that is not held comes first", x.get(0, 1), -12);
    }

    private static void getAsItIsNow() {
        C.sentence("Promise 10: One record, as it is now, in a FORMAT: its DAY");
        HarvestSteps x = Given.records(50, 1, 0, 0, 1000000);
        C.due("the first day", x.get(0, 0), 0);
        C.due("the last day", x.get(1, 0), 1000000);
        Given.listAll(x, 0, 0);
        x.change(0, 7);
        C.due("changed since it was listed", x.get(0, 0), 7);
        x.delete(0, 7);
        C.due("deleted since it was listed", x.get(0, 0), -27);
        C.row(x, 0, 0, 1, 0);
    }

    private static void countedAsOftenAsAnswered() {
        C.sentence("Promise 11: in all PAGES, each PAGE as often as it was");
        HarvestSteps x = Given.alike(2, 0, 5);
        C.due("no page", x.counted(0), 0);
        C.due("list", Given.listAll(x, 0, 0), 2);
        C.due("the first page", x.counted(0), 2);
        x.change(3, 10);
        x.change(4, 10);
        for (int times = 1; times <= 3; times++) {
            x.resume(0, 0, 0);
            C.due("a page of one, " + times + " times", x.counted(0), 2 + times);
        }
        C.due("resume", x.resume(0, 1, 0), 0);
        C.due("a page of none", x.counted(0), 5);
        C.due("-15", x.resume(0, 1, 1), -15);
        C.due("-14", x.list(0, 0, 0, 9, -1, 0), -14);
        C.due("codes", x.counted(0), 5);
        Given.listAll(x, 9, 0);
        C.due("another harvester", x.counted(9), 2);
        C.due("counted(0)", x.counted(0), 5);
    }

    private static void countedNone() {
        C.sentence("Promise 11: NONE");
        HarvestSteps x = Given.alike(1, 0, 1);
        for (int h : Given.NO_HARVESTERS) {
            C.due("counted(" + h + ")", x.counted(h), HarvestSteps.NONE);
        }
        for (int h = 0; h < 10; h++) {
            C.due("counted(" + h + ")", x.counted(h), 0);
        }
    }

    private static void passedInAllPages() {
        C.sentence("Promise 12: How many records were passed over in all PAGES");
        HarvestSteps x = Given.alike(50, 0, 150);
        C.due("no pages", x.passed(), 0);
        Given.listAll(x, 0, 0);
        Given.listAll(x, 1, 0);
        for (int record = 0; record < 150; record++) {
            x.change(record, 11);
        }
        C.due("pages that were not asked for", x.passed(), 0);
        C.due("resume", x.resume(0, 0, 0), 0);
        C.due("a page of 50", x.passed(), 50);
        x.resume(0, 0, 0);
        C.due("the same page, kept", x.passed(), 50);
        x.resume(0, 2, 0);
        C.due("the last page", x.passed(), 100);
        x.resume(1, 1, 0);
        C.due("another harvester's", x.passed(), 150);
        Given.listAll(x, 0, 0);
        C.due("a first page passes over none", x.passed(), 150);
    }

    private static void aboutLeft() {
        C.sentence("Promise 13: how many records of the LIST are left behind its PAGE's beginning");
        HarvestSteps x = Given.alike(1, 0, 150);
        Given.listAll(x, 0, 0);
        C.due("the most", x.about(0, 2), 149);
        for (int token = 0; token < 148; token++) {
            x.resume(0, token, 0);
        }
        C.due("the fewest", x.about(148, 2), 1);
        x.change(149, 10);
        C.due("one that will be passed over", x.about(148, 2), 1);
        C.due("resume", x.resume(0, 148, 0), 0);
        C.due("one that was passed over", x.about(148, 2), 1);
        C.due("the first token's, though it was used", x.about(0, 2), 149);
    }

    private static void aboutTimes() {
        C.sentence("Promise 13: the time at which it was made");
        HarvestSteps x = Given.alike(1, 1000000, 4);
        Given.listAll(x, 0, 0);
        C.due("the first time", x.about(0, 1), 0);
        x.resume(0, 0, 1000000);
        C.due("by a resume", x.about(1, 1), 1000000);
        x.resume(0, 0, 5);
        C.due("its page was answered again", x.about(1, 1), 1000000);
        Given.listAll(x, 9, 1000000000);
        C.due("the last time", x.about(2, 1), 1000000000);
        C.due("its harvester", x.about(2, 0), 9);
        C.due("of a token that has ended", x.about(0, 1), 0);
    }

    private static void aboutNoSuchToken() {
        C.sentence("Promise 13: NONE for none such");
        HarvestSteps x = Given.alike(1, 0, 2);
        C.due("none was made", x.about(0, 0), HarvestSteps.NONE);
        Given.listAll(x, 0, 0);
        int[] never = {-1, 1, Given.LEAST, Given.MOST};
        for (int token : never) {
            for (int what = 0; what < 3; what++) {
                C.due("about(" + token + ", " + what + ")", x.about(token, what), HarvestSteps.NONE);
            }
        }
        C.due("about(0, 0)", x.about(0, 0), 0);
    }

    private static void aboutAnotherWhat() {
        C.sentence("Promise 13: NONE for another what");
        HarvestSteps x = Given.alike(1, 0, 2);
        Given.listAll(x, 7, 0);
        int[] never = {-1, 3, Given.LEAST, Given.MOST};
        for (int what : never) {
            C.due("about(0, " + what + ")", x.about(0, what), HarvestSteps.NONE);
        }
        C.due("about(0, 0)", x.about(0, 0), 7);
        C.due("about(0, 1)", x.about(0, 1), 0);
        C.due("about(0, 2)", x.about(0, 2), 1);
    }
}
