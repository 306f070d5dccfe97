import java.util.StringJoiner;

/** What the tests by promise share: how to make an object ready, and how to look at one without changing it. */
abstract class Scene {
    static final int NONE = PutOut.NONE, BAD = PutOut.BAD, STATE = PutOut.STATE, FULL = PutOut.FULL;
    static final int NONE_SUCH = -100, MISSING = -11, OUTSIDE = -12, UNLIKE = -13, NEGATIVE = -14;

    /** Numbers that are far outside of everything. */
    static final int[] FAR = {Integer.MIN_VALUE, Integer.MIN_VALUE + 1, -65536, 65536, Integer.MAX_VALUE};

    static final Checks CHECKS = new Checks();

    static void due(String what, long got, long want) {
        CHECKS.due(what, got, want);
    }

    /** Feeds a text and reads it. */
    static int text(PutOut x, String s) {
        feed(x, s);
        return x.text();
    }

    static void feed(PutOut x, String s) {
        for (int i = 0; i < s.length(); i++) {
            x.feed(s.charAt(i));
        }
    }

    /** A new object whose RULE is a text. */
    static PutOut by(String rule) {
        PutOut x = new PutOut();
        due("rule: " + rule, x.force(text(x, rule)), 0);
        return x;
    }

    static void days(PutOut x, int... guests) {
        for (int d = 0; d < guests.length; d++) {
            x.set(2, d, guests[d]);
        }
    }

    /** A SHEET of ints that tells some numbers. */
    static void row(PutOut x, int sheet, int... numbers) {
        rowOf(x, sheet, 2, numbers);
    }

    static void rowOf(PutOut x, int sheet, int sort, int... numbers) {
        x.sheet(sheet, sort, numbers.length);
        for (int i = 0; i < numbers.length; i++) {
            x.cell(sheet, i, numbers[i]);
        }
    }

    /** Item i of SHEET 0 .. 2, if it is 0 .. 99 and a THING more has room; it spoils SHEET 3 and THE IMAGE. */
    static int item(PutOut x, int sheet, int sort, int i) {
        x.sheet(3, sort, 3);
        x.copy(sheet, i, 3, 1, 1);
        int index = x.image();
        int came = x.things(3, sort, 0, 1);
        int value = x.told(index, 1) * 10 + x.told(index, 3);
        x.back();
        return came == 1 ? value : NONE;
    }

    /** All that can be seen of an object by calls that change nothing. */
    static String state(PutOut x) {
        StringJoiner all = new StringJoiner(" ");
        for (int what = 0; what < 22; what++) {
            all.add("" + x.count(what));
        }
        for (int t = 0; t < 5; t++) {
            for (int what = 0; what < 6; what++) {
                all.add("" + x.told(t, what));
            }
        }
        for (int sheet = 0; sheet < 4; sheet++) {
            for (int sort = 0; sort < 3; sort++) {
                all.add("" + x.things(sheet, sort, 0, 0));
            }
            all.add("" + size(x, sheet)).add("" + x.seen(sheet, 0)).add("" + x.seen(sheet, 2));
        }
        return all.toString();
    }

    /** How many items a SHEET has; -11: missing. */
    static int size(PutOut x, int sheet) {
        int n = 0;
        while (n < 50 && x.copy(sheet, n, sheet, n, 0) == 0) {
            n++;
        }
        return n == 0 ? x.copy(sheet, 0, sheet, 0, 0) : n - 1;
    }
}
