/** The boundary cases of promises 1 to 5: one method a sentence. */
public final class BoundaryRecordsTest {
    private static final Check C = new Check("BoundaryRecordsTest");

    public static void main(String[] args) {
        nearestPageSize();
        nearestGrain();
        nearestLife();
        noRecords();
        recordOutOfRange();
        recordFull();
        refusedRecordTakesNoNumber();
        changeOnItsOwnDay();
        changeOfADeletedOne();
        changeOfNone();
        changeOutOfRange();
        changeBeforeItsDay();
        refusedChangeLeavesTheRecord();
        deleteOnItsOwnDay();
        deleteOfNone();
        deleteOutOfRange();
        deleteOfADeletedOne();
        deleteBeforeItsDay();
        refusedDeleteLeavesTheRecord();
        formFromNowOn();
        formOutOfRange();
        C.end();
    }

    private static void nearestPageSize() {
        C.sentence("Promise 1: PAGE SIZE 1 .. 50 (what is less or more is the nearest)");
        int[][] givenAndNearest = {{Given.LEAST, 1}, {-1, 1}, {0, 1}, {1, 1}, {2, 2}, {49, 49}, {50, 50}, {51, 50},
            {Given.MOST, 50}};
        for (int[] pair : givenAndNearest) {
            HarvestSteps x = Given.alike(pair[0], 0, 101);
            C.due("page " + pair[0] + ", first", Given.listAll(x, 0, 0), pair[1]);
            C.due("page " + pair[0] + ", second", x.resume(0, 0, 0), pair[1]);
        }
    }

    private static void nearestGrain() {
        C.sentence("Promise 1: GRAIN 1 .. 100 (what is less or more is the nearest)");
        int[][] givenAndNearest = {{Given.LEAST, 1}, {-100, 1}, {-1, 1}, {0, 1}, {1, 1}, {2, 2}, {99, 99}, {100, 100},
            {101, 100}, {200, 100}, {Given.MOST, 100}};
        for (int[] pair : givenAndNearest) {
            HarvestSteps x = new HarvestSteps(1, pair[0], 0);
            int number = 0;
            for (int day = 0; day <= 100; day++) {
                boolean can = day % pair[1] == 0;
                C.due("grain " + pair[0] + ", day " + day, x.record(0, day), can ? number : HarvestSteps.RANGE);
                number += can ? 1 : 0;
            }
        }
    }

    private static void nearestLife() {
        C.sentence("Promise 1: LIFE 0 .. 1000000 (what is less or more is the nearest)");
        int[][] givenAndNearest = {{Given.LEAST, 0}, {-1, 0}, {0, 0}, {1, 1}, {999999, 999999}, {1000000, 1000000},
            {1000001, 1000000}, {Given.MOST, 1000000}};
        for (int[] pair : givenAndNearest) {
            HarvestSteps x = Given.alike(1, pair[0], 2);
            Given.listAll(x, 0, 30);
            C.due("life " + pair[0] + ", behind its end", x.resume(0, 0, 31 + pair[1]), -15);
            C.due("life " + pair[0] + ", at its end", x.resume(0, 0, 30 + pair[1]), 1);
        }
    }

    private static void noRecords() {
        C.sentence("Promise 1: no records");
        HarvestSteps x = Given.records(50, 1, 0);
        C.due("get(0, 0)", x.get(0, 0), -16);
        C.due("change(0, 0)", x.change(0, 0), HarvestSteps.NONE);
        C.due("delete(0, 0)", x.delete(0, 0), HarvestSteps.NONE);
        C.due("list", Given.listAll(x, 0, 0), -14);
        C.due("passed()", x.passed(), 0);
        C.due("counted(0)", x.counted(0), 0);
        C.due("the first one's number", x.record(0, 0), 0);
    }

    private static void recordOutOfRange() {
        C.sentence("Promise 2: RANGE");
        HarvestSteps x = new HarvestSteps(50, 10, 0);
        int[][] never = {{-1, 10}, {10, 10}, {0, -10}, {0, 5}, {0, 15}, {0, 1000010}, {-1, -10}, {10, 5},
            {Given.LEAST, 0}, {Given.MOST, 0}, {0, Given.LEAST}, {0, Given.MOST}};
        for (int[] call : never) {
            C.due("record(" + call[0] + ", " + call[1] + ")", x.record(call[0], call[1]), HarvestSteps.RANGE);
        }
        int[][] can = {{0, 0}, {9, 0}, {0, 1000000}, {9, 1000000}};
        for (int i = 0; i < can.length; i++) {
            C.due("record(" + can[i][0] + ", " + can[i][1] + ")", x.record(can[i][0], can[i][1]), i);
        }
    }

    private static void recordFull() {
        C.sentence("Promise 2: FULL");
        HarvestSteps x = Given.alike(50, 0, 149);
        C.due("there is room for one", x.record(0, 10), 149);
        C.due("no room", x.record(0, 10), HarvestSteps.FULL);
        C.due("no room for another set or day", x.record(9, 1000000), HarvestSteps.FULL);
        C.due("RANGE comes first, for a set", x.record(10, 10), HarvestSteps.RANGE);
        C.due("RANGE comes first, for a day", x.record(0, -1), HarvestSteps.RANGE);
        C.due("delete", x.delete(0, 10), 1);
        C.due("a deleted record keeps its place", x.record(0, 10), HarvestSteps.FULL);
        C.due("what was refused is nowhere", x.list(0, 0, 11, 1000000, -1, 0), -14);
        C.due("the last one is as it was", x.get(149, 0), 10);
    }

    private static void refusedRecordTakesNoNumber() {
        C.sentence("Promise 2: A record more: its number; none for a refused call");
        HarvestSteps x = Given.records(50, 10, 0);
        C.due("record(0, 20)", x.record(0, 20), 0);
        C.due("record(0, 25)", x.record(0, 25), HarvestSteps.RANGE);
        C.due("record(10, 20)", x.record(10, 20), HarvestSteps.RANGE);
        C.due("get(1, 0)", x.get(1, 0), -16);
        C.due("record(0, 30)", x.record(0, 30), 1);
        C.due("list", Given.listAll(x, 0, 0), 2);
    }

    private static void changeOnItsOwnDay() {
        C.sentence("Promise 3: A record changes, on a day: 1");
        HarvestSteps x = Given.records(50, 10, 0, 50, 0);
        C.due("on the day that it has", x.change(0, 50), 1);
        C.due("get(0, 0)", x.get(0, 0), 50);
        C.due("one grain later", x.change(0, 60), 1);
        C.due("get(0, 0)", x.get(0, 0), 60);
        C.due("on the first day", x.change(1, 0), 1);
        C.due("on the last day", x.change(1, 1000000), 1);
        C.due("on the last day again", x.change(1, 1000000), 1);
        C.due("get(1, 0)", x.get(1, 0), 1000000);
    }

    private static void changeOfADeletedOne() {
        C.sentence("Promise 3: (one that was DELETED is there again)");
        HarvestSteps x = Given.records(50, 10, 0, 50);
        x.delete(0, 60);
        C.due("on the day of its deletion", x.change(0, 60), 1);
        C.due("get(0, 0)", x.get(0, 0), 60);
        C.due("it can be deleted again", x.delete(0, 60), 1);
        C.due("get(0, 0)", x.get(0, 0), -80);
        C.due("one grain later", x.change(0, 70), 1);
        C.due("get(0, 0)", x.get(0, 0), 70);
    }

    private static void changeOfNone() {
        C.sentence("Promise 3: NONE");
        HarvestSteps x = Given.records(50, 10, 0, 50);
        int[] never = {-1, 1, 149, 150, Given.LEAST, Given.MOST};
        for (int record : never) {
            C.due("change(" + record + ", 60)", x.change(record, 60), HarvestSteps.NONE);
            C.due("NONE comes before RANGE", x.change(record, 65), HarvestSteps.NONE);
        }
        C.due("change(0, 60)", x.change(0, 60), 1);
    }

    private static void changeOutOfRange() {
        C.sentence("Promise 3: RANGE");
        HarvestSteps x = Given.records(50, 10, 0, 50);
        // Those before day 50 would be STATE too, and RANGE is named first.
        int[] never = {-10, -1, 5, 45, 51, 55, 999999, 1000001, 1000010, Given.LEAST, Given.MOST};
        for (int day : never) {
            C.due("change(0, " + day + ")", x.change(0, day), HarvestSteps.RANGE);
        }
    }

    private static void changeBeforeItsDay() {
        C.sentence("Promise 3: STATE if the day is before the one that it has");
        HarvestSteps x = Given.records(50, 10, 0, 50, 50);
        C.due("one grain before", x.change(0, 40), HarvestSteps.STATE);
        C.due("the first day", x.change(0, 0), HarvestSteps.STATE);
        x.change(0, 70);
        C.due("before its change, though behind its making", x.change(0, 60), HarvestSteps.STATE);
        x.delete(1, 70);
        C.due("before its deletion, though behind its making", x.change(1, 60), HarvestSteps.STATE);
        C.due("it is still deleted", x.get(1, 0), -90);
    }

    private static void refusedChangeLeavesTheRecord() {
        C.sentence("Promise 3: a refused call leaves the record");
        HarvestSteps x = Given.records(50, 10, 0, 50, 50);
        x.delete(1, 50);
        for (int record = 0; record < 2; record++) {
            C.due("STATE", x.change(record, 40), HarvestSteps.STATE);
            C.due("RANGE", x.change(record, 55), HarvestSteps.RANGE);
        }
        C.due("get(0, 0)", x.get(0, 0), 50);
        C.due("get(1, 0)", x.get(1, 0), -70);
    }

    private static void deleteOnItsOwnDay() {
        C.sentence("Promise 4: A record is DELETED, on a day: 1");
        HarvestSteps x = Given.records(50, 10, 0, 50, 50, 0, 0);
        C.due("on the day that it has", x.delete(0, 50), 1);
        C.due("get(0, 0)", x.get(0, 0), -70);
        C.due("one grain later", x.delete(1, 60), 1);
        C.due("get(1, 0)", x.get(1, 0), -80);
        C.due("on the first day", x.delete(2, 0), 1);
        C.due("get(2, 0)", x.get(2, 0), -20);
        C.due("on the last day", x.delete(3, 1000000), 1);
        C.due("get(3, 0)", x.get(3, 0), -1000020);
    }

    private static void deleteOfNone() {
        C.sentence("Promise 4: NONE");
        HarvestSteps x = Given.records(50, 10, 0, 50);
        int[] never = {-1, 1, 149, 150, Given.LEAST, Given.MOST};
        for (int record : never) {
            C.due("delete(" + record + ", 60)", x.delete(record, 60), HarvestSteps.NONE);
            C.due("NONE comes before RANGE", x.delete(record, 65), HarvestSteps.NONE);
        }
        C.due("delete(0, 60)", x.delete(0, 60), 1);
    }

    private static void deleteOutOfRange() {
        C.sentence("Promise 4: RANGE");
        HarvestSteps x = Given.records(50, 10, 0, 50, 50);
        x.delete(1, 50);
        int[] never = {-10, -1, 5, 45, 51, 55, 999999, 1000001, 1000010, Given.LEAST, Given.MOST};
        for (int day : never) {
            C.due("delete(0, " + day + ")", x.delete(0, day), HarvestSteps.RANGE);
            C.due("RANGE comes before STATE", x.delete(1, day), HarvestSteps.RANGE);
        }
    }

    private static void deleteOfADeletedOne() {
        C.sentence("Promise 4: STATE if it is");
        HarvestSteps x = Given.records(50, 10, 0, 50);
        x.delete(0, 60);
        C.due("on the same day", x.delete(0, 60), HarvestSteps.STATE);
        C.due("on a later day", x.delete(0, 70), HarvestSteps.STATE);
        C.due("on the last day", x.delete(0, 1000000), HarvestSteps.STATE);
        C.due("on a day before", x.delete(0, 50), HarvestSteps.STATE);
        C.due("get(0, 0)", x.get(0, 0), -80);
        x.change(0, 60);
        C.due("there again", x.delete(0, 60), 1);
    }

    private static void deleteBeforeItsDay() {
        C.sentence("Promise 4: STATE if the day is before the one that it has");
        HarvestSteps x = Given.records(50, 10, 0, 50);
        C.due("one grain before", x.delete(0, 40), HarvestSteps.STATE);
        C.due("the first day", x.delete(0, 0), HarvestSteps.STATE);
        x.change(0, 70);
        C.due("before its change, though behind its making", x.delete(0, 60), HarvestSteps.STATE);
        C.due("on the day of its change", x.delete(0, 70), 1);
    }

    private static void refusedDeleteLeavesTheRecord() {
        C.sentence("Promise 4: a refused call leaves the record");
        HarvestSteps x = Given.records(50, 10, 0, 50, 50);
        x.delete(1, 50);
        C.due("STATE", x.delete(0, 40), HarvestSteps.STATE);
        C.due("RANGE", x.delete(0, 55), HarvestSteps.RANGE);
        C.due("STATE", x.delete(1, 60), HarvestSteps.STATE);
        C.due("get(0, 0)", x.get(0, 0), 50);
        C.due("get(1, 0)", x.get(1, 0), -70);
    }

    private static void formFromNowOn() {
        C.sentence("Promise 5: A FORMAT is HELD from now on, or not: 1");
        HarvestSteps x = new HarvestSteps(1, 1, 0);
        x.record(0, 5);
        x.record(0, 5);
        C.due("not held, and not held again", x.form(5, false), 1);
        C.due("get(0, 5)", x.get(0, 5), -12);
        C.due("held", x.form(5, true), 1);
        C.due("get(0, 5)", x.get(0, 5), 5);
        C.due("held, and held again", x.form(5, true), 1);
        C.due("get(0, 5)", x.get(0, 5), 5);
        x.list(0, 5, 5, 5, -1, 0);
        C.due("not held", x.form(5, false), 1);
        C.due("get(0, 5)", x.get(0, 5), -12);
        C.row(x, 0, 0, 3, 5);
        C.due("a list that was asked for before goes on", x.resume(0, 0, 0), 1);
        C.row(x, 0, 0, 3, 5);
    }

    private static void formOutOfRange() {
        C.sentence("Promise 5: RANGE");
        HarvestSteps x = new HarvestSteps(50, 1, 0);
        x.record(0, 5);
        int[] never = {-1, 6, Given.LEAST, Given.MOST};
        for (int form : never) {
            C.due("form(" + form + ", true)", x.form(form, true), HarvestSteps.RANGE);
            C.due("form(" + form + ", false)", x.form(form, false), HarvestSteps.RANGE);
        }
        for (int form = -1; form <= 6; form++) {
            C.due("a refused call holds none: get(0, " + form + ")", x.get(0, form), -12);
        }
        C.due("form(0, true)", x.form(0, true), 1);
        C.due("form(5, true)", x.form(5, true), 1);
    }
}
