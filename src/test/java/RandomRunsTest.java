import java.util.Random;

/** Runs of drawn calls (their seeds are fixed) on PutOut and on Plain: both must answer alike. */
final class RandomRunsTest {
    private static final int RUNS = 400, CALLS = 120;
    private static final String[] NAMES = {"thing", "place", "giver", "guests", "look", "number"};
    private static final String[] TOKENS = {"moves", "ugly", "minds", "or", "and", "not", "thing", "place", "giver",
            "guests", "look", "number", "(", ")", ";", "+", "-", "*", "<", "=", "7", "1234", "00001", "lo", "A", "#"};

    private final Random r;
    private final PutOut x = new PutOut();
    private final Plain y = new Plain();
    private final Checks checks;
    private final String run;

    private RandomRunsTest(int seed, Checks checks) {
        this.r = new Random(seed);
        this.checks = checks;
        this.run = "run " + seed + ": ";
    }

    public static void main(String[] args) {
        Checks checks = new Checks();
        for (int seed = 0; seed < RUNS && !checks.isWrong(); seed++) {
            new RandomRunsTest(seed, checks).go();
        }
        checks.end();
    }

    private void go() {
        int begin = r.nextInt(6);
        for (int i = 0; i < begin; i++) {
            things();
        }
        for (int i = 0; i < 7; i++) {
            int guests = r.nextInt(16);
            due("set", x.set(2, i, guests), y.set(2, i, guests), 2, i, guests);
        }
        for (int i = 0; i < CALLS && !checks.isWrong(); i++) {
            switch (r.nextInt(8)) {
                case 0 -> set();
                case 1 -> put();
                case 2 -> texts();
                case 3, 4 -> plans();
                case 5 -> rooms();
                case 6 -> sheets();
                default -> told();
            }
        }
        everything();
    }

    private void due(String call, long got, long want, int... args) {
        checks.due(run + call + java.util.Arrays.toString(args), got, want);
    }

    /** Mostly from .. to, now and then beside it. */
    private int near(int from, int to) {
        int dice = r.nextInt(25);
        return dice == 0 ? from - 1 : dice == 1 ? to + 1 : dice == 2 && r.nextInt(4) == 0 ? r.nextInt()
                : from + r.nextInt(to - from + 1);
    }

    private void things() {
        int a = near(0, 5);
        int b = near(0, 99);
        int c = near(0, 3);
        due("thing", x.thing(a, b, c), y.thing(a, b, c), a, b, c);
    }

    private void set() {
        int a = near(0, 5);
        int b = near(0, a == 0 ? 5 : a == 1 ? 3 : a == 2 ? 6 : 4);
        int c = near(0, a == 0 || a == 2 ? 15 : a == 1 || a == 4 ? 3 : 9);
        due("set", x.set(a, b, c), y.set(a, b, c), a, b, c);
        if (r.nextInt(4) == 0) {
            things();
        }
    }

    private void put() {
        int a = near(0, 4);
        int b = near(-1, 5);
        due("put", x.put(a, b), y.put(a, b), a, b);
    }

    private void told() {
        int a = near(0, 4);
        int b = near(0, 11);
        int c = near(0, 21);
        int d = near(0, 5);
        due("told", x.told(a, b), y.told(a, b), a, b);
        due("count", x.count(c), y.count(c), c);
        due("taken", x.taken(a, d), y.taken(a, d), a, d);
        switch (r.nextInt(12)) {
            case 0 -> due("image", x.image(), y.image());
            case 1 -> due("back", x.back(), y.back());
            default -> { }
        }
    }

    private void texts() {
        if (r.nextInt(3) > 0) {
            int a = near(0, Math.max(0, y.count(2) - 1));
            due("force", x.force(a), y.force(a), a);
            return;
        }
        StringBuilder s = new StringBuilder();
        if (r.nextInt(4) == 0) {
            int n = r.nextInt(30);
            for (int i = 0; i < n; i++) {
                s.append(TOKENS[r.nextInt(TOKENS.length)]).append(blank());
            }
        } else {
            s.append("moves ").append(e(3)).append(";ugly ").append(e(3)).append(";minds ").append(e(3)).append(';');
            if (r.nextInt(5) == 0) {
                s.setCharAt(r.nextInt(s.length()), TOKENS[r.nextInt(TOKENS.length)].charAt(0));
            }
            if (r.nextInt(8) == 0) {
                s.setLength(r.nextInt(s.length()));
            }
        }
        for (int i = 0; i < s.length(); i++) {
            due("feed", x.feed(s.charAt(i)), y.feed(s.charAt(i)), s.charAt(i));
        }
        int odd = near(0, 255);
        if (r.nextInt(10) == 0) {
            due("feed", x.feed(odd), y.feed(odd), odd);
        }
        checks.due(run + "text of '" + s + "'", x.text(), y.text());
    }

    private String blank() {
        return r.nextInt(3) == 0 ? "" : r.nextInt(5) == 0 ? "\n" : " ";
    }

    private String e(int depth) {
        String b = blank();
        if (depth == 0) {
            return b + (r.nextInt(3) == 0 ? Integer.toString(r.nextInt(r.nextInt(3) == 0 ? 10000 : 30))
                    : NAMES[r.nextInt(6)]) + blank();
        }
        return switch (r.nextInt(9)) {
            case 0 -> e(depth - 1) + " or " + e(depth - 1);
            case 1 -> e(depth - 1) + " and " + e(depth - 1);
            case 2 -> " not " + e(depth - 1);
            case 3 -> e(depth - 1) + "<" + e(depth - 1);
            case 4 -> e(depth - 1) + "=" + e(depth - 1);
            case 5 -> e(depth - 1) + "+" + e(depth - 1);
            case 6 -> e(depth - 1) + "-" + e(depth - 1);
            case 7 -> e(depth - 1) + "*" + e(depth - 1);
            default -> r.nextBoolean() ? "(" + e(depth - 1) + ")" : "-" + e(depth - 1);
        };
    }

    private void plans() {
        int guests = near(0, 15);
        int n = near(0, 5);
        int what = near(-1, 4);
        int part = near(0, 2);
        int seed = r.nextInt();
        switch (r.nextInt(12)) {
            case 0 -> due("tidy", x.tidy(guests), y.tidy(guests), guests);
            case 1, 2, 3 -> due("best", x.best(guests, n, what), y.best(guests, n, what), guests, n, what);
            case 4, 5 -> due("once", x.once(what), y.once(what), what);
            case 6 -> due("week", x.week(part), y.week(part), part);
            case 7 -> due("dearest", x.dearest(part), y.dearest(part), part);
            case 8 -> due("give", x.give(), y.give());
            case 9 -> due("drawn", x.drawn(seed), y.drawn(seed), seed);
            case 10 -> {
                int many = near(1, r.nextInt(6) == 0 ? 10 : 2);
                due("chance", x.chance(seed, many, part), y.chance(seed, many, part), seed, many, part);
            }
            default -> {
                int g = near(0, 3);
                int d = near(0, 6);
                due("seat", x.seat(g, d), y.seat(g, d), g, d);
            }
        }
        due("day", x.day(guests, n), y.day(guests, n), guests, n);
    }

    private void rooms() {
        int sheet = near(0, 3);
        int guests = near(0, 15);
        if (r.nextInt(3) == 0) {
            due("film", x.film(sheet, guests), y.film(sheet, guests), sheet, guests);
        } else {
            int sort = near(-1, 2);
            int n = y.count(0) + (r.nextInt(10) == 0 ? 1 : 0);
            due("sheet", x.sheet(sheet, sort, n), y.sheet(sheet, sort, n), sheet, sort, n);
            for (int i = 0; i < n; i++) {
                int v = r.nextInt(3) == 0 ? r.nextInt(600) - 1 : y.told(i, 6 + i) == 1 ? i : -1;
                due("cell", x.cell(sheet, i, v), y.cell(sheet, i, v), sheet, i, v);
            }
        }
        for (int what = 0; what < 4; what++) {
            due("seen", x.seen(sheet, what), y.seen(sheet, what), sheet, what);
        }
    }

    private void sheets() {
        int a = near(0, 3);
        int b = near(0, 3);
        int sort = near(-1, 2);
        int n = near(0, r.nextInt(4) == 0 ? 40 : 12);
        int i = near(0, 8);
        int j = near(0, 8);
        int v = near(0, 9);
        switch (r.nextInt(4)) {
            case 0 -> due("sheet", x.sheet(a, sort, n), y.sheet(a, sort, n), a, sort, n);
            case 1 -> due("cell", x.cell(a, i, v), y.cell(a, i, v), a, i, v);
            case 2 -> due("copy", x.copy(a, i, b, j, v), y.copy(a, i, b, j, v), a, i, b, j, v);
            default -> due("things", x.things(a, sort, i, v / 2), y.things(a, sort, i, v / 2), a, sort, i, v / 2);
        }
    }

    private void everything() {
        for (int what = -1; what < 23; what++) {
            due("count", x.count(what), y.count(what), what);
        }
        for (int t = 0; t < 5; t++) {
            for (int what = -1; what < 13; what++) {
                due("told", x.told(t, what), y.told(t, what), t, what);
            }
        }
        for (int n = 0; n < 6; n++) {
            for (int what = -1; what < 5; what++) {
                due("best", x.best(n * 3, n, what), y.best(n * 3, n, what), n * 3, n, what);
            }
        }
        for (int what = 0; what < 3; what++) {
            due("week", x.week(what), y.week(what), what);
        }
        due("give", x.give(), y.give());
        due("chance", x.chance(7, 3, 0), y.chance(7, 3, 0), 7, 3, 0);
        due("chance", x.chance(7, 3, 1), y.chance(7, 3, 1), 7, 3, 1);
    }
}
