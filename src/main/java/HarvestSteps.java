import java.util.ArrayList;
import java.util.Arrays;
import java.util.NoSuchElementException;

public final class HarvestSteps {
    public static final int NONE = -1;
    public static final int RANGE = -2;
    public static final int STATE = -3;
    public static final int FULL = -4;

    private static final int BAD_SPAN = -11;
    private static final int BAD_FORM = -12;
    private static final int BAD_SET = -13;
    private static final int NOTHING_LISTED = -14;
    private static final int BAD_TOKEN = -15;
    private static final int NO_RECORD = -16;
    private static final int DELETED_BASE = -20;

    private static final int DONE = 1;
    private static final int ALL_SETS = -1;

    private static final int MOST_RECORDS = 150;
    private static final int MOST_LISTS = 30;
    private static final int MOST_PAGE_SIZE = 50;
    private static final int MOST_GRAIN = 100;
    private static final int MOST_LIFE = 1000000;
    private static final int SETS = 10;
    private static final int FORMS = 6;
    private static final int HARVESTERS = 10;
    private static final int LAST_DAY = 1000000;
    private static final int LAST_TIME = 1000000000;

    private final int pageSize;
    private final int grain;
    private final int life;

    private final boolean[] held = new boolean[FORMS];

    private final int[] setOf = new int[MOST_RECORDS];
    private final int[] dayOf = new int[MOST_RECORDS];
    private final boolean[] deletedNow = new boolean[MOST_RECORDS];
    private final int[] latestAct = new int[MOST_RECORDS];
    private int recordCount = 0;
    private int actCount = 0;

    /** One row for every list to be sorted in, so that a list that is refused makes no object. */
    private final int[] order = new int[MOST_RECORDS];
    private int listCount = 0;

    private final ArrayList<Token> tokens = new ArrayList<Token>();
    private final Page[] latestPage = new Page[HARVESTERS];
    private final int[] answered = new int[HARVESTERS];
    private int passedOver = 0;

    public HarvestSteps(int page, int grain, int life) {
        this.pageSize = nearest(page, 1, MOST_PAGE_SIZE);
        this.grain = nearest(grain, 1, MOST_GRAIN);
        this.life = nearest(life, 0, MOST_LIFE);
    }

    public int record(int set, int day) {
        if (!isSet(set) || !canBeDay(day)) {
            return RANGE;
        }
        if (recordCount >= MOST_RECORDS) {
            return FULL;
        }
        int number = recordCount;
        recordCount++;
        setOf[number] = set;
        act(number, day, false);
        return number;
    }

    public int change(int record, int day) {
        if (!isRecord(record)) {
            return NONE;
        }
        if (!canBeDay(day)) {
            return RANGE;
        }
        if (day < dayOf[record]) {
            return STATE;
        }
        act(record, day, false);
        return DONE;
    }

    public int delete(int record, int day) {
        if (!isRecord(record)) {
            return NONE;
        }
        if (!canBeDay(day)) {
            return RANGE;
        }
        if (deletedNow[record] || day < dayOf[record]) {
            return STATE;
        }
        act(record, day, true);
        return DONE;
    }

    public int form(int form, boolean on) {
        if (!isForm(form)) {
            return RANGE;
        }
        held[form] = on;
        return DONE;
    }

    public int list(int harvester, int form, int from, int to, int set, int t) {
        if (!isHarvester(harvester)) {
            return NONE;
        }
        if (!isTime(t)) {
            return RANGE;
        }
        if (!canBeDay(from) || !canBeDay(to) || from > to) {
            return BAD_SPAN;
        }
        if (!isHeld(form)) {
            return BAD_FORM;
        }
        if (set != ALL_SETS && !isSet(set)) {
            return BAD_SET;
        }
        int size = sortSpan(from, to, set);
        if (size < 1) {
            return NOTHING_LISTED;
        }
        if (listCount >= MOST_LISTS) {
            return FULL;
        }
        listCount++;
        Listing listing = new Listing(harvester, form, actCount, Arrays.copyOf(order, size));
        return answer(harvester, makePage(listing, 0, t));
    }

    public int resume(int harvester, int token, int t) {
        if (!isHarvester(harvester)) {
            return NONE;
        }
        if (!isTime(t)) {
            return RANGE;
        }
        if (!isToken(token)) {
            return BAD_TOKEN;
        }
        Token asked = tokens.get(token);
        if (asked.listing.harvester != harvester || t > asked.made + life) {
            return BAD_TOKEN;
        }
        if (asked.page == null) {
            asked.page = makePage(asked.listing, asked.begin, t);
        }
        return answer(harvester, asked.page);
    }

    public int token(int harvester) {
        if (!isHarvester(harvester)) {
            return NONE;
        }
        Page page = latestPage[harvester];
        return page == null ? NONE : page.nextToken;
    }

    public int row(int harvester, int i, int what) throws NoSuchElementException {
        if (!isHarvester(harvester)) {
            throw new NoSuchElementException("no such harvester");
        }
        Page page = latestPage[harvester];
        if (page == null) {
            throw new NoSuchElementException("no page was answered");
        }
        if (i < 0 || i >= page.count) {
            throw new NoSuchElementException("no such row");
        }
        switch (what) {
            case 0:
                return page.numbers[i];
            case 1:
                return page.days[i];
            case 2:
                return page.deleted[i] ? 1 : 0;
            case 3:
                return page.form;
            default:
                throw new NoSuchElementException("no such what");
        }
    }

    public int get(int record, int form) {
        if (!isHeld(form)) {
            return BAD_FORM;
        }
        if (!isRecord(record)) {
            return NO_RECORD;
        }
        return deletedNow[record] ? DELETED_BASE - dayOf[record] : dayOf[record];
    }

    public int counted(int harvester) {
        return isHarvester(harvester) ? answered[harvester] : NONE;
    }

    public int passed() {
        return passedOver;
    }

    public int about(int token, int what) {
        if (!isToken(token)) {
            return NONE;
        }
        Token asked = tokens.get(token);
        switch (what) {
            case 0:
                return asked.listing.harvester;
            case 1:
                return asked.made;
            case 2:
                return asked.listing.numbers.length - asked.begin;
            default:
                return NONE;
        }
    }

    private static int nearest(int value, int least, int most) {
        return Math.max(least, Math.min(most, value));
    }

    private static boolean isSet(int set) {
        return set >= 0 && set < SETS;
    }

    private static boolean isForm(int form) {
        return form >= 0 && form < FORMS;
    }

    private static boolean isHarvester(int harvester) {
        return harvester >= 0 && harvester < HARVESTERS;
    }

    private static boolean isTime(int t) {
        return t >= 0 && t <= LAST_TIME;
    }

    private boolean isHeld(int form) {
        return isForm(form) && held[form];
    }

    private boolean isRecord(int record) {
        return record >= 0 && record < recordCount;
    }

    private boolean isToken(int token) {
        return token >= 0 && token < tokens.size();
    }

    private boolean canBeDay(int day) {
        return day >= 0 && day <= LAST_DAY && grain > 0 && day % grain == 0;
    }

    private void act(int number, int day, boolean deleted) {
        actCount++;
        latestAct[number] = actCount;
        dayOf[number] = day;
        deletedNow[number] = deleted;
    }

    /** Leaves the numbers of the span's records at the beginning of the row order; answers how many. */
    private int sortSpan(int from, int to, int set) {
        int size = 0;
        for (int number = 0; number < recordCount; number++) {
            boolean inSpan = dayOf[number] >= from && dayOf[number] <= to;
            if (inSpan && (set == ALL_SETS || setOf[number] == set)) {
                insertByDay(number, size);
                size++;
            }
        }
        return size;
    }

    /** Numbers come here rising, so that stopping at an equal day keeps equal days in order of numbers. */
    private void insertByDay(int number, int size) {
        int at = size;
        while (at > 0 && dayOf[order[at - 1]] > dayOf[number]) {
            order[at] = order[at - 1];
            at--;
        }
        order[at] = number;
    }

    /** A record without an act since the list was asked for is still as it was then, so its state now is the page's. */
    private Page makePage(Listing listing, int begin, int t) {
        int end = Math.min(begin + pageSize, listing.numbers.length);
        Page page = new Page(listing.form, Math.max(0, end - begin));
        for (int at = begin; at < end; at++) {
            int number = listing.numbers[at];
            if (latestAct[number] > listing.actsBefore) {
                passedOver++;
            } else {
                page.keep(number, dayOf[number], deletedNow[number]);
            }
        }
        if (end < listing.numbers.length) {
            page.nextToken = tokens.size();
            tokens.add(new Token(listing, end, t));
        }
        return page;
    }

    private int answer(int harvester, Page page) {
        latestPage[harvester] = page;
        answered[harvester] += page.count;
        return page.count;
    }

    /** What a list was asked for and the records that it had then, in order. */
    private static final class Listing {
        final int harvester;
        final int form;
        final int actsBefore;
        final int[] numbers;

        Listing(int harvester, int form, int actsBefore, int[] numbers) {
            this.harvester = harvester;
            this.form = form;
            this.actsBefore = actsBefore;
            this.numbers = numbers;
        }
    }

    /** Rows as they were when the page was asked for first. */
    private static final class Page {
        final int form;
        final int[] numbers;
        final int[] days;
        final boolean[] deleted;
        int count = 0;
        int nextToken = NONE;

        Page(int form, int room) {
            this.form = form;
            this.numbers = new int[room];
            this.days = new int[room];
            this.deleted = new boolean[room];
        }

        void keep(int number, int day, boolean isDeleted) {
            if (count >= numbers.length) {
                return;
            }
            numbers[count] = number;
            days[count] = day;
            deleted[count] = isDeleted;
            count++;
        }
    }

    /** Leads to the page that begins at a place of a list; page is null until it is asked for. */
    private static final class Token {
        final Listing listing;
        final int begin;
        final int made;
        Page page = null;

        Token(Listing listing, int begin, int made) {
            this.listing = listing;
            this.begin = begin;
            this.made = made;
        }
    }
}
