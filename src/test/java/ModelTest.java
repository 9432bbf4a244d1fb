import java.util.ArrayList;
import java.util.Comparator;
import java.util.List;
import java.util.NoSuchElementException;
import java.util.Random;

/**
 * All promises together: runs of 512 calls, always the same ones, each answer held against a model that keeps
 * a history of every record and copies whole lists, and so shares no way of working with the class.
 */
public final class ModelTest {
    private static final int THROWS = Integer.MIN_VALUE;
    private static final int RUNS = 1500;
    private static final int CALLS = 512;

    private record State(int number, int set, int day, boolean deleted, int versions) { }

    private static final class Page {
        final List<State> rows = new ArrayList<>();
        int form;
        int token = -1;
    }

    private static final class Ticket {
        int harvester;
        int form;
        int made;
        List<State> left;
        Page page;
    }

    private static final class Model {
        final int size;
        final int grain;
        final int life;
        final List<List<State>> history = new ArrayList<>();
        final boolean[] held = new boolean[6];
        final List<Ticket> tickets = new ArrayList<>();
        final Page[] latest = new Page[10];
        final int[] counted = new int[10];
        int lists = 0;
        int passed = 0;

        Model(int page, int grain, int life) {
            this.size = page < 1 ? 1 : page > 50 ? 50 : page;
            this.grain = grain < 1 ? 1 : grain > 100 ? 100 : grain;
            this.life = life < 0 ? 0 : life > 1000000 ? 1000000 : life;
        }

        boolean day(int d) {
            return d >= 0 && d <= 1000000 && d / grain * grain == d;
        }

        State now(int number) {
            List<State> all = history.get(number);
            return all.get(all.size() - 1);
        }

        void put(State old, int day, boolean deleted) {
            history.get(old.number).add(new State(old.number, old.set, day, deleted, old.versions + 1));
        }

        int record(int set, int day) {
            if (set < 0 || set > 9 || !day(day)) return -2;
            if (history.size() == 150) return -4;
            history.add(new ArrayList<>());
            history.get(history.size() - 1).add(new State(history.size() - 1, set, day, false, 0));
            return history.size() - 1;
        }

        int change(int record, int day) {
            if (record < 0 || record >= history.size()) return -1;
            if (!day(day)) return -2;
            if (now(record).day > day) return -3;
            put(now(record), day, false);
            return 1;
        }

        int delete(int record, int day) {
            if (record < 0 || record >= history.size()) return -1;
            if (!day(day)) return -2;
            if (now(record).deleted || now(record).day > day) return -3;
            put(now(record), day, true);
            return 1;
        }

        int form(int form, boolean on) {
            if (form < 0 || form > 5) return -2;
            held[form] = on;
            return 1;
        }

        int list(int h, int form, int from, int to, int set, int t) {
            if (h < 0 || h > 9) return -1;
            if (t < 0 || t > 1000000000) return -2;
            if (!day(from) || !day(to) || to < from) return -11;
            if (form < 0 || form > 5 || !held[form]) return -12;
            if (set < -1 || set > 9) return -13;
            List<State> found = new ArrayList<>();
            for (int i = 0; i < history.size(); i++) {
                State s = now(i);
                if (from <= s.day && s.day <= to && (set < 0 || set == s.set)) found.add(s);
            }
            if (found.isEmpty()) return -14;
            if (lists == 30) return -4;
            lists++;
            found.sort(Comparator.comparingInt(State::day).thenComparingInt(State::number));
            return answer(h, page(h, form, found, t));
        }

        Page page(int h, int form, List<State> left, int t) {
            Page page = new Page();
            page.form = form;
            int taken = 0;
            for (State s : left) {
                if (taken == size) break;
                taken++;
                if (now(s.number).versions == s.versions) page.rows.add(s);
                else passed++;
            }
            if (taken < left.size()) {
                Ticket ticket = new Ticket();
                ticket.harvester = h;
                ticket.form = form;
                ticket.made = t;
                ticket.left = new ArrayList<>(left.subList(taken, left.size()));
                page.token = tickets.size();
                tickets.add(ticket);
            }
            return page;
        }

        int answer(int h, Page page) {
            latest[h] = page;
            counted[h] += page.rows.size();
            return page.rows.size();
        }

        int resume(int h, int token, int t) {
            if (h < 0 || h > 9) return -1;
            if (t < 0 || t > 1000000000) return -2;
            if (token < 0 || token >= tickets.size()) return -15;
            Ticket ticket = tickets.get(token);
            if (ticket.harvester != h || (long) t - ticket.made > life) return -15;
            if (ticket.page == null) ticket.page = page(h, ticket.form, ticket.left, t);
            return answer(h, ticket.page);
        }

        int token(int h) {
            return h < 0 || h > 9 || latest[h] == null ? -1 : latest[h].token;
        }

        int row(int h, int i, int what) {
            if (h < 0 || h > 9 || latest[h] == null || i < 0 || i >= latest[h].rows.size()) return THROWS;
            State s = latest[h].rows.get(i);
            return what == 0 ? s.number : what == 1 ? s.day : what == 2 ? (s.deleted ? 1 : 0)
                    : what == 3 ? latest[h].form : THROWS;
        }

        int get(int record, int form) {
            if (form < 0 || form > 5 || !held[form]) return -12;
            if (record < 0 || record >= history.size()) return -16;
            return now(record).deleted ? -20 - now(record).day : now(record).day;
        }

        int counted(int h) {
            return h < 0 || h > 9 ? -1 : counted[h];
        }

        int about(int token, int what) {
            if (token < 0 || token >= tickets.size()) return -1;
            Ticket ticket = tickets.get(token);
            return what == 0 ? ticket.harvester : what == 1 ? ticket.made : what == 2 ? ticket.left.size() : -1;
        }
    }

    private static final Check C = new Check("ModelTest");
    private static final int[] ODD = {Integer.MIN_VALUE, -1000000, -2, -1, 10, 150, 1000001, 1000000001, Integer.MAX_VALUE};

    private final Random random;
    private final HarvestSteps x;
    private final Model model;
    private final int days;
    private final int harvesters;
    private int clock;
    private int calls = 0;

    private ModelTest(long seed) {
        random = new Random(seed);
        int page = seed % 3 == 0 ? random.nextInt(60) - 4 : 1 + random.nextInt(6);
        int grain = seed % 5 == 0 ? random.nextInt(120) - 9 : 1 + random.nextInt(3);
        int life = random.nextInt(40) - 2;
        x = new HarvestSteps(page, grain, life);
        model = new Model(page, grain, life);
        days = random.nextBoolean() ? 4 : 40;
        harvesters = 1 + random.nextInt(10);
        clock = random.nextInt(3) == 0 ? 1000000000 - 200 : random.nextInt(100);
    }

    /** Mostly a number below the bound; now and then one that is out of every range. */
    private int number(int bound) {
        return random.nextInt(25) == 0 ? ODD[random.nextInt(ODD.length)] : random.nextInt(Math.max(1, bound));
    }

    private int day() {
        int day = number(days);
        return day >= 0 && day < days && random.nextInt(20) != 0 ? day * model.grain : day;
    }

    private int time() {
        clock += random.nextInt(4);
        return random.nextInt(10) == 0 ? number(1000) : clock - random.nextInt(3);
    }

    private int lookAtRow(int h, int i, int what) {
        try {
            return x.row(h, i, what);
        } catch (NoSuchElementException e) {
            return THROWS;
        }
    }

    /** Answers past the 512th call are free. */
    private void due(String call, int got, int want) {
        calls++;
        if (calls <= CALLS) {
            C.due(call, got, want);
        }
    }

    private void step(String run) {
        int kind = random.nextInt(100);
        int h = number(harvesters);
        int r = number(model.history.size() + 1);
        int f = number(7);
        int d = day();
        int k = random.nextInt(3) == 0 ? number(model.tickets.size() + 1) : model.token(h);
        int what = number(4);
        if (kind < 20) {
            int set = number(3);
            due(run + "record(" + set + "," + d + ")", x.record(set, d), model.record(set, d));
        } else if (kind < 27) {
            due(run + "change(" + r + "," + d + ")", x.change(r, d), model.change(r, d));
        } else if (kind < 32) {
            due(run + "delete(" + r + "," + d + ")", x.delete(r, d), model.delete(r, d));
        } else if (kind < 37) {
            boolean on = random.nextInt(4) != 0;
            due(run + "form(" + f + "," + on + ")", x.form(f, on), model.form(f, on));
        } else if (kind < 46) {
            int to = random.nextInt(4) == 0 ? day() : (days - 1) * model.grain;
            int from = random.nextInt(3) == 0 ? d : 0;
            int set = number(5) - 1;
            int t = time();
            due(run + "list(" + h + "," + f + "," + from + "," + to + "," + set + "," + t + ")",
                    x.list(h, f, from, to, set, t), model.list(h, f, from, to, set, t));
        } else if (kind < 66) {
            int t = time();
            due(run + "resume(" + h + "," + k + "," + t + ")", x.resume(h, k, t), model.resume(h, k, t));
        } else if (kind < 72) {
            due(run + "token(" + h + ")", x.token(h), model.token(h));
        } else if (kind < 84) {
            int i = number(model.size + 1);
            due(run + "row(" + h + "," + i + "," + what + ")", lookAtRow(h, i, what), model.row(h, i, what));
        } else if (kind < 88) {
            due(run + "get(" + r + "," + f + ")", x.get(r, f), model.get(r, f));
        } else if (kind < 92) {
            due(run + "counted(" + h + ")", x.counted(h), model.counted(h));
        } else if (kind < 95) {
            due(run + "passed()", x.passed(), model.passed);
        } else {
            due(run + "about(" + k + "," + what + ")", x.about(k, what), model.about(k, what));
        }
    }

    public static void main(String[] args) {
        for (int seed = 0; seed < RUNS; seed++) {
            ModelTest test = new ModelTest(seed);
            // Some runs go on, to see that the machine throws nothing there either.
            int calls = seed % 100 == 99 ? 20 * CALLS : CALLS;
            for (int call = 0; call < calls; call++) {
                test.step("run " + seed + ", call " + call + ": ");
            }
        }
        C.end();
    }
}
