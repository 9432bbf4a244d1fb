/** Promise 1: a new object. */
public final class NewObjectTest {
    private static final Check C = new Check("NewObjectTest");

    public static void main(String[] args) {
        startsEmpty();
        pageSizeIsTheNearest();
        grainIsTheNearest();
        lifeIsTheNearest();
        objectsAreApart();
        C.end();
    }

    private static void startsEmpty() {
        HarvestSteps x = new HarvestSteps(5, 1, 10);
        for (int f = 0; f < 6; f++) {
            C.due("get(0, f), no format held at first", x.get(0, f), -12);
        }
        x.form(0, true);
        C.due("get(0, 0), no records", x.get(0, 0), -16);
        C.due("change(0, 0)", x.change(0, 0), HarvestSteps.NONE);
        C.due("delete(0, 0)", x.delete(0, 0), HarvestSteps.NONE);
        C.due("list", x.list(0, 0, 0, 1000000, -1, 0), -14);
        C.due("passed()", x.passed(), 0);
        C.due("about(0, 0)", x.about(0, 0), HarvestSteps.NONE);
        C.due("resume(0, 0, 0)", x.resume(0, 0, 0), -15);
        for (int h = 0; h < 10; h++) {
            C.due("token", x.token(h), HarvestSteps.NONE);
            C.due("counted", x.counted(h), 0);
            C.noRow(x, h, 0, 0);
        }
        C.due("record(0, 0)", x.record(0, 0), 0);
    }

    private static int firstPageOf(int page, int records) {
        HarvestSteps x = new HarvestSteps(page, 1, 0);
        x.form(0, true);
        for (int i = 0; i < records; i++) {
            x.record(0, i);
        }
        return x.list(0, 0, 0, 1000, -1, 0);
    }

    private static void pageSizeIsTheNearest() {
        C.due("page 1", firstPageOf(1, 60), 1);
        C.due("page 7", firstPageOf(7, 60), 7);
        C.due("page 49", firstPageOf(49, 60), 49);
        C.due("page 50", firstPageOf(50, 60), 50);
        C.due("page 51", firstPageOf(51, 60), 50);
        C.due("page 0", firstPageOf(0, 60), 1);
        C.due("page -3", firstPageOf(-3, 60), 1);
        C.due("page least", firstPageOf(Integer.MIN_VALUE, 60), 1);
        C.due("page most", firstPageOf(Integer.MAX_VALUE, 60), 50);
    }

    private static void grainIs(int grain, int want) {
        HarvestSteps x = new HarvestSteps(1, grain, 0);
        int number = 0;
        for (int day = 0; day <= 201; day++) {
            boolean can = day % want == 0;
            C.due("grain " + grain + ": record(0, " + day + ")", x.record(0, day),
                    !can ? HarvestSteps.RANGE : number < 150 ? number : HarvestSteps.FULL);
            if (can) {
                number++;
            }
        }
    }

    private static void grainIsTheNearest() {
        grainIs(1, 1);
        grainIs(0, 1);
        grainIs(-9, 1);
        grainIs(Integer.MIN_VALUE, 1);
        grainIs(2, 2);
        grainIs(7, 7);
        grainIs(99, 99);
        grainIs(100, 100);
        grainIs(101, 100);
        grainIs(Integer.MAX_VALUE, 100);
    }

    private static void lifeIs(int life, int want) {
        HarvestSteps x = new HarvestSteps(1, 1, life);
        x.form(0, true);
        x.record(0, 0);
        x.record(0, 0);
        x.list(0, 0, 0, 0, -1, 50);
        C.due("life " + life + ": too late", x.resume(0, 0, 50 + want + 1), -15);
        C.due("life " + life + ": at its end", x.resume(0, 0, 50 + want), 1);
    }

    private static void lifeIsTheNearest() {
        lifeIs(0, 0);
        lifeIs(-1, 0);
        lifeIs(Integer.MIN_VALUE, 0);
        lifeIs(1, 1);
        lifeIs(999999, 999999);
        lifeIs(1000000, 1000000);
        lifeIs(1000001, 1000000);
        lifeIs(Integer.MAX_VALUE, 1000000);
    }

    private static void objectsAreApart() {
        HarvestSteps x = new HarvestSteps(1, 1, 0);
        HarvestSteps y = new HarvestSteps(1, 1, 0);
        x.form(0, true);
        x.record(0, 1);
        C.due("y.get(0, 0)", y.get(0, 0), -12);
        y.form(0, true);
        C.due("y.get(0, 0)", y.get(0, 0), -16);
    }
}
