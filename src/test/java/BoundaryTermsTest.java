/** The boundary cases of the document's beginning and its Terms, up to what a list has: one method a sentence. */
public final class BoundaryTermsTest {
    private static final Check C = new Check("BoundaryTermsTest");

    public static void main(String[] args) {
        callsTo512();
        recordNumbers();
        setNumbers();
        dayBounds();
        dayMultiples();
        actsOfEachKind();
        refusedCallsAreNoActs();
        formatNumbers();
        noFormatAtFirst();
        timeBounds();
        harvesterNumbers();
        spanEnds();
        allSets();
        firstCode();
        codeOfDays();
        codeOfFormats();
        codeOfSets();
        codeOfNothing();
        orderOfDaysThenNumbers();
        deletedOnesToo();
        dayOfChangeOrDeletion();
        asTheyAreNow();
        constants();
        C.end();
    }

    private static void callsTo512() {
        C.sentence("An object is used for at most 512 calls after it has been made");
        HarvestSteps x = Given.alike(1, 0, 150);
        int calls = 151;
        C.due("list", Given.listAll(x, 0, 0), 1);
        calls++;
        for (int token = 0; token < 149; token++) {
            C.due("resume", x.resume(0, token, 0), 1);
            calls++;
        }
        for (int record = 0; record < 150; record++) {
            C.due("change", x.change(record, 20), 1);
            calls++;
        }
        C.due("list", Given.listAll(x, 9, 1), 1);
        calls++;
        for (int token = 149; calls < 510; token++) {
            C.due("resume", x.resume(9, token, 1), 1);
            calls++;
        }
        C.due("the 511th call", x.counted(9), 59);
        C.due("the 512th call", x.about(207, 2), 91);
    }

    private static void recordNumbers() {
        C.sentence("RECORDS are 0 .. 149, as they come");
        HarvestSteps x = new HarvestSteps(50, 1, 0);
        x.form(0, true);
        for (int i = 0; i < 150; i++) {
            C.due("record number " + i, x.record(i % 10, 500 - i), i);
        }
        C.due("one more", x.record(0, 0), HarvestSteps.FULL);
        C.due("get(149, 0)", x.get(149, 0), 351);
        C.due("get(150, 0)", x.get(150, 0), -16);
        C.due("change(149, 351)", x.change(149, 351), 1);
        C.due("change(150, 351)", x.change(150, 351), HarvestSteps.NONE);
        C.due("delete(149, 351)", x.delete(149, 351), 1);
        C.due("delete(150, 351)", x.delete(150, 351), HarvestSteps.NONE);
        C.due("list of its day", x.list(0, 0, 351, 351, -1, 0), 1);
        C.numbers(x, 0, 149);
    }

    private static void setNumbers() {
        C.sentence("each in a SET, 0 .. 9");
        HarvestSteps x = new HarvestSteps(50, 1, 0);
        x.form(0, true);
        C.due("record(-1, 5)", x.record(-1, 5), HarvestSteps.RANGE);
        C.due("record(10, 5)", x.record(10, 5), HarvestSteps.RANGE);
        C.due("record(least, 5)", x.record(Given.LEAST, 5), HarvestSteps.RANGE);
        C.due("record(most, 5)", x.record(Given.MOST, 5), HarvestSteps.RANGE);
        for (int set = 0; set < 10; set++) {
            C.due("record(" + set + ", 5)", x.record(set, 5), set);
        }
        for (int set = 0; set < 10; set++) {
            C.due("list of set " + set, x.list(0, 0, 5, 5, set, 0), 1);
            C.numbers(x, 0, set);
        }
    }

    /** No call takes the day; record 0 is on day 0, so that no day that can be is before its own. */
    private static void cannotBe(HarvestSteps x, int day, int lastDay) {
        C.due("record(0, " + day + ")", x.record(0, day), HarvestSteps.RANGE);
        C.due("change(0, " + day + ")", x.change(0, day), HarvestSteps.RANGE);
        C.due("delete(0, " + day + ")", x.delete(0, day), HarvestSteps.RANGE);
        C.due("list from " + day, x.list(0, 0, day, lastDay, -1, 0), -11);
        C.due("list to " + day, x.list(0, 0, 0, day, -1, 0), -11);
    }

    private static void dayBounds() {
        C.sentence("Days are 0 .. 1000000");
        HarvestSteps x = Given.records(50, 1, 0, 0, 0, 0);
        int[] never = {-1, 1000001, Given.LEAST, Given.MOST};
        for (int day : never) {
            cannotBe(x, day, 1000000);
        }
        C.due("record(0, 0)", x.record(0, 0), 3);
        C.due("record(0, 1000000)", x.record(0, 1000000), 4);
        C.due("change(0, 0)", x.change(0, 0), 1);
        C.due("change(0, 1000000)", x.change(0, 1000000), 1);
        C.due("delete(1, 0)", x.delete(1, 0), 1);
        C.due("delete(2, 1000000)", x.delete(2, 1000000), 1);
        C.due("list from 0 to 0", x.list(0, 0, 0, 0, -1, 0), 2);
        C.numbers(x, 0, 1, 3);
        C.due("list from 1000000 to 1000000", x.list(0, 0, 1000000, 1000000, -1, 0), 3);
        C.numbers(x, 0, 0, 2, 4);
        C.due("list from 0 to 1000000", x.list(0, 0, 0, 1000000, -1, 0), 5);
    }

    private static void dayMultiples() {
        C.sentence("stand at multiples of the GRAIN (a day of a call that is no multiple of it can't be)");
        HarvestSteps x = Given.records(50, 7, 0, 0, 0, 0);
        // The last day is no multiple of 7; 999999 is the last one that is, and 1000006 lies behind the last day.
        int[] never = {1, 6, 8, 13, 999998, 1000000, 1000006, -7, -1};
        for (int day : never) {
            cannotBe(x, day, 999999);
        }
        C.due("record(0, 7)", x.record(0, 7), 3);
        C.due("record(0, 14)", x.record(0, 14), 4);
        C.due("record(0, 999999)", x.record(0, 999999), 5);
        C.due("change(0, 999999)", x.change(0, 999999), 1);
        C.due("delete(1, 7)", x.delete(1, 7), 1);
        C.due("list from 7 to 999999", x.list(0, 0, 7, 999999, -1, 0), 5);
        C.numbers(x, 0, 1, 3, 4, 0, 5);
    }

    private static void actsOfEachKind() {
        C.sentence("Each call that makes, changes or deletes a record is an ACT; they are counted");
        HarvestSteps x = Given.alike(1, 0, 5);
        x.delete(3, 10);
        x.list(0, 0, 0, 10, -1, 0);
        x.change(1, 10);
        x.delete(2, 10);
        x.change(3, 10);
        C.due("record", x.record(0, 10), 5);
        C.due("changed, on its own day", x.resume(0, 0, 0), 0);
        C.due("deleted, on its own day", x.resume(0, 1, 0), 0);
        C.due("there again, on its own day", x.resume(0, 2, 0), 0);
        C.due("without an act", x.resume(0, 3, 0), 1);
        C.due("one made since is not in the list", x.token(0), HarvestSteps.NONE);
        C.due("passed()", x.passed(), 3);
    }

    private static void refusedCallsAreNoActs() {
        C.sentence("Each call that makes, changes or deletes a record is an ACT; a refused call does none of these");
        HarvestSteps x = Given.alike(1, 0, 3);
        x.delete(2, 10);
        Given.listAll(x, 0, 0);
        C.due("change(1, 9)", x.change(1, 9), HarvestSteps.STATE);
        C.due("change(1, -1)", x.change(1, -1), HarvestSteps.RANGE);
        C.due("delete(1, 9)", x.delete(1, 9), HarvestSteps.STATE);
        C.due("delete(1, 1000001)", x.delete(1, 1000001), HarvestSteps.RANGE);
        C.due("delete(2, 11)", x.delete(2, 11), HarvestSteps.STATE);
        C.due("change(2, 9)", x.change(2, 9), HarvestSteps.STATE);
        C.due("change(3, 10)", x.change(3, 10), HarvestSteps.NONE);
        C.due("form(0, false)", x.form(0, false), 1);
        C.due("get(1, 0)", x.get(1, 0), -12);
        C.due("resume(0, 0, 0)", x.resume(0, 0, 0), 1);
        C.numbers(x, 0, 1);
        C.due("resume(0, 1, 0)", x.resume(0, 1, 0), 1);
        C.numbers(x, 0, 2);
        C.row(x, 0, 0, 1, 10);
        C.row(x, 0, 0, 2, 1);
        C.due("passed()", x.passed(), 0);
    }

    private static void formatNumbers() {
        C.sentence("FORMATS are 0 .. 5, HELD or not");
        HarvestSteps x = new HarvestSteps(50, 1, 0);
        x.record(0, 5);
        int[] never = {-1, 6, Given.LEAST, Given.MOST};
        for (int form : never) {
            C.due("form(" + form + ", true)", x.form(form, true), HarvestSteps.RANGE);
            C.due("get(0, " + form + ")", x.get(0, form), -12);
            C.due("list of format " + form, x.list(0, form, 0, 9, -1, 0), -12);
        }
        for (int form = 0; form < 6; form++) {
            C.due("form(" + form + ", true)", x.form(form, true), 1);
            for (int other = 0; other < 6; other++) {
                C.due("get(0, " + other + "), held is " + form, x.get(0, other), other == form ? 5 : -12);
            }
            C.due("list of format " + form, x.list(0, form, 0, 9, -1, 0), 1);
            C.row(x, 0, 0, 3, form);
            C.due("form(" + form + ", false)", x.form(form, false), 1);
        }
    }

    private static void noFormatAtFirst() {
        C.sentence("(none at first)");
        HarvestSteps x = new HarvestSteps(50, 1, 0);
        x.record(0, 5);
        for (int form = 0; form < 6; form++) {
            C.due("get(0, " + form + ")", x.get(0, form), -12);
            C.due("list of format " + form, x.list(0, form, 0, 9, -1, 0), -12);
        }
    }

    private static void timeBounds() {
        C.sentence("TIMES are 0 .. 1000000000");
        HarvestSteps x = Given.alike(1, 0, 2);
        for (int t : Given.NO_TIMES) {
            C.due("list at " + t, Given.listAll(x, 0, t), HarvestSteps.RANGE);
            C.due("resume at " + t, x.resume(0, 0, t), HarvestSteps.RANGE);
        }
        C.due("list at 0", Given.listAll(x, 0, 0), 1);
        C.due("made at 0", x.about(0, 1), 0);
        C.due("resume at 0", x.resume(0, 0, 0), 1);
        C.due("list at 1000000000", Given.listAll(x, 0, 1000000000), 1);
        C.due("made at 1000000000", x.about(1, 1), 1000000000);
        C.due("resume at 1000000000", x.resume(0, 1, 1000000000), 1);
    }

    private static void harvesterNumbers() {
        C.sentence("A LIST is asked for by a HARVESTER, 0 .. 9");
        HarvestSteps x = Given.alike(1, 0, 3);
        for (int h : Given.NO_HARVESTERS) {
            C.due("list of " + h, Given.listAll(x, h, 0), HarvestSteps.NONE);
        }
        for (int h = 0; h < 10; h++) {
            C.due("list of " + h, Given.listAll(x, h, 0), 1);
            C.due("its token", x.token(h), h);
            C.due("whose the token is", x.about(h, 0), h);
        }
        for (int h = 0; h < 10; h++) {
            C.due("resume of " + h, x.resume(h, h, 0), 1);
            C.numbers(x, h, 1);
            C.due("counted(" + h + ")", x.counted(h), 2);
        }
    }

    private static void spanEnds() {
        C.sentence("from a day to one");
        HarvestSteps x = Given.records(50, 1, 0, 9, 10, 11, 19, 20, 21);
        C.due("list from 10 to 20", x.list(0, 0, 10, 20, -1, 0), 4);
        C.numbers(x, 0, 1, 2, 3, 4);
        C.due("list from 11 to 19", x.list(0, 0, 11, 19, -1, 0), 2);
        C.numbers(x, 0, 2, 3);
        C.due("list from 10 to 10", x.list(0, 0, 10, 10, -1, 0), 1);
        C.numbers(x, 0, 1);
        C.due("list from 11 to 10", x.list(0, 0, 11, 10, -1, 0), -11);
    }

    private static void allSets() {
        C.sentence("of a SET (or -1: all)");
        HarvestSteps x = Given.records(50, 1, 0);
        for (int set = 9; set >= 0; set--) {
            x.record(set, 5);
        }
        C.due("list of all", x.list(0, 0, 0, 9, -1, 0), 10);
        C.numbers(x, 0, 0, 1, 2, 3, 4, 5, 6, 7, 8, 9);
        C.due("list of set 0", x.list(0, 0, 0, 9, 0, 0), 1);
        C.numbers(x, 0, 9);
        C.due("list of set 9", x.list(0, 0, 0, 9, 9, 0), 1);
        C.numbers(x, 0, 0);
        C.due("list of set -2", x.list(0, 0, 0, 9, -2, 0), -13);
    }

    private static void firstCode() {
        C.sentence("What is against it is told as a CODE, the first of these");
        HarvestSteps x = Given.records(50, 10, 0, 50);
        // Bit 0: a day that can't be; bit 1: a format not held; bit 2: no such set; bit 3: no record in the span.
        for (int against = 0; against < 16; against++) {
            int from = (against & 8) != 0 ? 60 : 50;
            int to = (against & 1) != 0 ? 65 : 70;
            int form = (against & 2) != 0 ? 1 : 0;
            int set = (against & 4) != 0 ? 10 : 0;
            int want = (against & 1) != 0 ? -11 : (against & 2) != 0 ? -12 : (against & 4) != 0 ? -13
                    : (against & 8) != 0 ? -14 : 1;
            String call = "list(0, " + form + ", " + from + ", " + to + ", " + set + ", 0)";
            C.due(call, x.list(0, form, from, to, set, 0), want);
        }
        C.due("from behind to, a format not held", x.list(0, 1, 60, 50, 10, 0), -11);
    }

    private static void codeOfDays() {
        C.sentence("-11 a day that can't be, or from behind to");
        HarvestSteps x = Given.records(50, 10, 0, 0, 10, 20);
        C.due("from can't be", x.list(0, 0, 5, 20, -1, 0), -11);
        C.due("to can't be", x.list(0, 0, 0, 15, -1, 0), -11);
        C.due("both can't be", x.list(0, 0, 5, 15, -1, 0), -11);
        C.due("from too small", x.list(0, 0, -10, 20, -1, 0), -11);
        C.due("to too large", x.list(0, 0, 0, 1000010, -1, 0), -11);
        C.due("from behind to by one grain", x.list(0, 0, 20, 10, -1, 0), -11);
        C.due("from behind to by most", x.list(0, 0, 1000000, 0, -1, 0), -11);
        C.due("from is to", x.list(0, 0, 20, 20, -1, 0), 1);
        C.due("from before to by one grain", x.list(0, 0, 10, 20, -1, 0), 2);
    }

    private static void codeOfFormats() {
        C.sentence("-12 no such FORMAT, or not HELD");
        HarvestSteps x = Given.records(50, 1, 0, 5);
        x.form(5, true);
        C.due("no such format, too small", x.list(0, -1, 0, 9, -1, 0), -12);
        C.due("no such format, too large", x.list(0, 6, 0, 9, -1, 0), -12);
        C.due("never held", x.list(0, 1, 0, 9, -1, 0), -12);
        C.due("the first, held", x.list(0, 0, 0, 9, -1, 0), 1);
        C.due("the last, held", x.list(0, 5, 0, 9, -1, 0), 1);
        x.form(5, false);
        C.due("no longer held", x.list(0, 5, 0, 9, -1, 0), -12);
        x.form(5, true);
        C.due("held again", x.list(0, 5, 0, 9, -1, 0), 1);
    }

    private static void codeOfSets() {
        C.sentence("-13 no such SET");
        HarvestSteps x = Given.records(50, 1, 0, 5);
        int[] never = {-2, 10, Given.LEAST, Given.MOST};
        for (int set : never) {
            C.due("list of set " + set, x.list(0, 0, 0, 9, set, 0), -13);
        }
        C.due("a set that is there, though none is in it", x.list(0, 0, 0, 9, 9, 0), -14);
        C.due("list of set 0", x.list(0, 0, 0, 9, 0, 0), 1);
    }

    private static void codeOfNothing() {
        C.sentence("-14 there is nothing");
        HarvestSteps x = Given.records(50, 10, 0);
        C.due("no records at all", Given.listAll(x, 0, 0), -14);
        x.record(3, 50);
        C.due("the span ends one grain before", x.list(0, 0, 0, 40, -1, 0), -14);
        C.due("the span begins one grain behind", x.list(0, 0, 60, 1000000, -1, 0), -14);
        C.due("none of the set", x.list(0, 0, 0, 1000000, 2, 0), -14);
        C.due("none of the set", x.list(0, 0, 0, 1000000, 4, 0), -14);
        C.due("one is enough", x.list(0, 0, 50, 50, 3, 0), 1);
        x.change(0, 60);
        C.due("it changed out of the span", x.list(0, 0, 0, 50, -1, 0), -14);
        x.delete(0, 70);
        C.due("it was deleted out of the span", x.list(0, 0, 0, 60, -1, 0), -14);
        C.due("no page by a code", x.counted(0), 1);
    }

    private static void orderOfDaysThenNumbers() {
        C.sentence("in ORDER by days, then by numbers");
        HarvestSteps x = Given.records(50, 1, 0);
        // Two records a day, and the days fall, so the list turns all of them round but for the two of a day.
        for (int i = 0; i < 150; i++) {
            x.record(0, 74 - i / 2);
        }
        C.due("list", Given.listAll(x, 0, 0), 50);
        for (int place = 0; place < 150; place++) {
            if (place == 50 || place == 100) {
                C.due("resume", x.resume(0, place / 50 - 1, 0), 50);
            }
            C.row(x, 0, place % 50, 0, 148 - place + 2 * (place % 2));
        }
        C.due("token(0)", x.token(0), HarvestSteps.NONE);
    }

    private static void deletedOnesToo() {
        C.sentence("all records, DELETED ones too");
        HarvestSteps x = Given.records(50, 1, 0, 5, 5);
        x.delete(0, 5);
        C.due("one deleted, one not", Given.listAll(x, 0, 0), 2);
        C.row(x, 0, 0, 2, 1);
        C.row(x, 0, 1, 2, 0);
        x.delete(1, 5);
        C.due("all deleted", Given.listAll(x, 0, 0), 2);
        C.row(x, 0, 0, 2, 1);
        C.row(x, 0, 1, 2, 1);
    }

    private static void dayOfChangeOrDeletion() {
        C.sentence("whose DAY (of the change, or deletion) lies in the span");
        HarvestSteps x = Given.records(50, 1, 0, 10, 10, 10);
        x.change(0, 20);
        x.delete(1, 30);
        C.due("list of the day of making", x.list(0, 0, 10, 10, -1, 0), 1);
        C.numbers(x, 0, 2);
        C.due("list of the day of the change", x.list(0, 0, 20, 20, -1, 0), 1);
        C.numbers(x, 0, 0);
        C.due("list of the day of the deletion", x.list(0, 0, 30, 30, -1, 0), 1);
        C.numbers(x, 0, 1);
        C.due("list between them", x.list(0, 0, 21, 29, -1, 0), -14);
    }

    private static void asTheyAreNow() {
        C.sentence("as they are now");
        HarvestSteps x = Given.records(50, 1, 0, 10, 20);
        x.change(0, 30);
        x.delete(0, 40);
        C.due("list", Given.listAll(x, 0, 0), 2);
        C.numbers(x, 0, 1, 0);
        C.row(x, 0, 1, 1, 40);
        C.row(x, 0, 1, 2, 1);
        x.change(0, 40);
        C.due("list", Given.listAll(x, 0, 0), 2);
        C.row(x, 0, 1, 2, 0);
    }

    private static void constants() {
        C.sentence("The constants");
        C.due("NONE", HarvestSteps.NONE, -1);
        C.due("RANGE", HarvestSteps.RANGE, -2);
        C.due("STATE", HarvestSteps.STATE, -3);
        C.due("FULL", HarvestSteps.FULL, -4);
    }
}
