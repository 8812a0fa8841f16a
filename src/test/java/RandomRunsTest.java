import java.util.Random;

/** Long runs of calls, drawn with fixed seeds: HeedClock must answer each as ClockModel does. */
public final class RandomRunsTest {
    private static final int RUNS = 400;
    private static final int CALLS = 512;
    private static final int CALLS_KINDS = 33;

    private final Checks checks = new Checks("random runs");
    private Random random;
    private HeedClock clock;
    private ClockModel model;
    private int run;
    private int calls;

    public static void main(String[] args) {
        RandomRunsTest test = new RandomRunsTest();
        for (int run = 0; run < RUNS; run++) {
            test.oneRun(run);
        }
        test.checks.end();
    }

    private void oneRun(int number) {
        run = number;
        calls = 0;
        random = new Random(7700L + number);
        clock = new HeedClock();
        model = new ClockModel();
        while (calls < CALLS) {
            int drawn = random.nextInt(100);
            if (drawn < 2 || calls == 0 && drawn < 90) {
                feedText(random.nextInt(4) == 0 ? spoilt(houseText()) : houseText());
            } else if (drawn < 4) {
                foretoldRow();
            } else {
                one(random.nextInt(CALLS_KINDS));
            }
        }
    }

    private int pick(int least, int most) {
        return least + random.nextInt(most - least + 1);
    }

    /** Mostly within the bounds, at times just beyond or far off. */
    private int near(int least, int most) {
        int drawn = random.nextInt(40);
        if (drawn == 0) {
            return least - 1;
        }
        if (drawn == 1) {
            return most + 1;
        }
        if (drawn == 2) {
            return random.nextInt();
        }
        if (drawn == 3) {
            return random.nextBoolean() ? Integer.MAX_VALUE : Integer.MIN_VALUE;
        }
        return pick(least, most);
    }

    private String houseText() {
        StringBuilder text = new StringBuilder("c" + (random.nextInt(3) == 0 ? pick(0, 12) : pick(0, 2)) + ";");
        int ears = random.nextInt(12) == 0 ? 7 : pick(0, 6);
        for (int i = 0; i < ears; i++) {
            text.append("pwtkd".charAt(random.nextInt(5))).append(pick(1, 12)).append(',');
            text.append(random.nextInt(2) * pick(0, 3)).append(',').append(pick(0, 7)).append(',').append(pick(1, 8));
            text.append(';');
        }
        int doings = random.nextInt(12) == 0 ? 5 : pick(0, 4);
        for (int i = 0; i < doings; i++) {
            text.append('x').append(random.nextInt(3) == 0 ? pick(0, 99) : pick(0, 12)).append(',');
            text.append(random.nextInt(3) == 0 ? pick(1, 40) : pick(1, 6)).append(',').append(pick(0, 99)).append(';');
        }
        return text.toString();
    }

    private String spoilt(String text) {
        StringBuilder spoilt = new StringBuilder(text);
        int at = random.nextInt(text.length());
        String signs = "0123456789,;cpwtkdxz A" + (char) 0 + (char) 255 + "/:";
        char sign = signs.charAt(random.nextInt(signs.length()));
        switch (random.nextInt(4)) {
            case 0 -> spoilt.setCharAt(at, sign);
            case 1 -> spoilt.insert(at, sign);
            case 2 -> spoilt.deleteCharAt(at);
            default -> spoilt.setLength(at);
        }
        return spoilt.toString();
    }

    private void feedText(String text) {
        for (int i = 0; i < text.length() && calls < CALLS; i++) {
            check("feed", clock.feed(text.charAt(i)), model.feed(text.charAt(i)));
        }
        if (calls < CALLS) {
            check("house of " + text, clock.house(), model.house());
        }
    }

    /** A row that is likely to fit what the clock does next, so that who and heed have something to find. */
    private void foretoldRow() {
        int row = pick(0, 2);
        int lane = pick(0, 2);
        int n = pick(1, 16);
        int from = pick(0, 3);
        check("row", clock.row(row, lane, n + from), model.row(row, lane, n + from));
        for (int i = 0; i < n && calls < CALLS; i++) {
            int goes = model.ahead(i + 1) - model.ahead(i);
            check("set", clock.set(row, from + i, goes), model.set(row, from + i, goes));
        }
        int ear = pick(0, 5);
        if (calls + 3 <= CALLS) {
            check("who fitted", clock.who(row, from, n, 0), model.who(row, from, n, 0));
            check("who fitted", clock.who(row, from, n, 1), model.who(row, from, n, 1));
            check("heed fitted", clock.heed(ear, row, from, n), model.heed(ear, row, from, n));
        }
    }

    private void one(int call) {
        if (call < 12) {
            changing(call);
        } else if (call < 24) {
            foretelling(call);
        } else {
            asking(call);
        }
    }

    private void changing(int call) {
        int row = near(0, 3);
        int ear = near(0, 5);
        int a = near(0, 7);
        int b = near(0, 7);
        int n = near(0, 5);
        int v = random.nextInt(2) == 0 ? random.nextInt() : pick(0, 30);
        switch (call) {
            case 0 -> {
                int lane = near(0, 2);
                int many = random.nextInt(3) == 0 ? near(0, 40) : near(0, 8);
                check("row", clock.row(row, lane, many), model.row(row, lane, many));
            }
            case 1 -> check("set", clock.set(row, a, v), model.set(row, a, v));
            case 2 -> {
                int to = random.nextBoolean() ? row : near(0, 3);
                check("copy", clock.copy(row, a, to, b, n), model.copy(row, a, to, b, n));
            }
            case 3 -> {
                if (random.nextInt(4) == 0) {
                    check("drop", clock.drop(row), model.drop(row));
                }
            }
            case 4 -> {
                int letter = near(0, 255);
                check("feed", clock.feed(letter), model.feed(letter));
            }
            case 5 -> check("house", clock.house(), model.house());
            case 6, 7 -> {
                int quarters = run % 3 == 0 ? near(1, 20) : near(1, 3);
                check("quarters", clock.quarters(quarters), model.quarters(quarters));
            }
            case 8 -> {
                int room = random.nextBoolean() ? 0 : near(0, 3);
                check("go", clock.go(ear, room), model.go(ear, room));
            }
            case 9 -> {
                int is = near(0, 1);
                check("hush", clock.hush(ear, is), model.hush(ear, is));
            }
            case 10 -> {
                int wool = random.nextBoolean() ? near(0, 12) : pick(0, 2);
                check("wool", clock.wool(wool), model.wool(wool));
            }
            default -> check("undo", clock.undo(), model.undo());
        }
    }

    private void foretelling(int call) {
        int row = near(0, 3);
        int ear = near(0, 5);
        int n = near(0, 99);
        int what = near(0, 1);
        int v = random.nextInt(5) == 0 ? near(0, 999) : near(0, 120);
        int i = near(0, 7);
        int items = random.nextBoolean() ? near(1, 16) : near(1, 3);
        switch (call) {
            case 12 -> check("ahead", clock.ahead(n), model.ahead(n));
            case 13 -> check("whenShows", clock.whenShows(v), model.whenShows(v));
            case 14, 15 -> {
                int doing = near(0, 3);
                check("done", clock.done(doing), model.done(doing));
                check("latest", clock.latest(doing), model.latest(doing));
            }
            case 16 -> check("late", clock.late(), model.late());
            case 17 -> check("toHush", clock.toHush(v, n, what), model.toHush(v, n, what));
            case 18 -> check("toCall", clock.toCall(v, n, what), model.toCall(v, n, what));
            case 19 -> check("who", clock.who(row, i, items, what), model.who(row, i, items, what));
            case 20 -> check("heed", clock.heed(ear, row, i, items), model.heed(ear, row, i, items));
            case 21 -> {
                int other = near(0, 5);
                check("older", clock.older(ear, other, n), model.older(ear, other, n));
            }
            default -> {
                int parts = random.nextBoolean() ? near(0, 99) : near(0, 20);
                int c = near(0, 10);
                check("odds", clock.odds(parts, c, what), model.odds(parts, c, what));
            }
        }
    }

    private void asking(int call) {
        int ear = near(0, 5);
        switch (call) {
            case 24 -> {
                int k = near(0, 1);
                if (random.nextInt(3) == 0) {
                    check("restore", clock.restore(k), model.restore(k));
                } else {
                    check("image", clock.image(k), model.image(k));
                }
            }
            case 25 -> check("kind", clock.kind(ear), model.kind(ear));
            case 26 -> {
                int kind = near(0, 5);
                check("as", clock.as(ear, kind), model.as(ear, kind));
            }
            case 27 -> {
                int what = near(0, 1);
                check("ask", clock.ask(ear, what), model.ask(ear, what));
            }
            case 28 -> {
                int i = near(0, 7);
                check("trace", clock.trace(i), model.trace(i));
            }
            case 29 -> {
                int what = near(0, 7);
                check("count", clock.count(what), model.count(what));
            }
            case 30 -> check("status", clock.status(), model.status());
            case 31 -> {
                for (int what = 0; what <= 5; what++) {
                    check("ear", clock.ear(ear, what), model.ear(ear, what));
                }
                int what = near(0, 5);
                check("ear", clock.ear(ear, what), model.ear(ear, what));
            }
            default -> {
                int what = near(0, 3);
                check("clock", clock.clock(what), model.clock(what));
                check("fault", clock.fault(), model.fault());
            }
        }
    }

    private void check(String call, int got, int want) {
        calls++;
        checks.due("run " + run + ", call " + calls + ", " + call, got, want);
    }
}
