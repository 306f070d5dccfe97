/** Refusals change nothing; the first that the call's words name is told; 512 calls are fine. */
final class EdgesRefusalsTest extends Scene {
    private static final int LEAST = Integer.MIN_VALUE, MOST = Integer.MAX_VALUE;

    private interface Call {
        long on(PutOut x);
    }

    public static void main(String[] args) {
        ofPlacesAndThings();
        ofTexts();
        ofDays();
        ofRooms();
        ofTheHost();
        ofSomeThatAreFull();
        used512Times();
        nothingIsSharedByObjects();
        CHECKS.end();
    }

    /** Four THINGS, two PUT; two TEXTS; a TAPE; SHEETS 0 (a ROOM), 1 (too large), 2 (no ROOM); an IMAGE of three. */
    private static PutOut full() {
        PutOut x = new PutOut();
        text(x, "moves 2;ugly 3;minds 4;");
        x.force(1);
        feed(x, " abc");
        x.thing(0, 11, 0);
        x.thing(3, 22, 1);
        x.thing(2, 33, 2);
        x.put(0, 3);
        x.set(0, 1, 6);
        x.image();
        x.thing(5, 44, 3);
        x.put(1, 4);
        x.set(1, 2, 0);
        days(x, 1, 2, 3, 4, 5, 6, 7);
        rowOf(x, 0, 0, 1, 2, 3, -1);
        rowOf(x, 1, 2, 3, 2, 1, 0, 7);
        rowOf(x, 2, 1, 3, 2, 5, 3);
        return x;
    }

    /** What is seen only by calls that change something: THE TAPE, THE IMAGE, items. */
    private static String depths(PutOut x) {
        StringBuilder all = new StringBuilder();
        all.append(x.text()).append(' ').append(x.back());
        for (int what = 0; what < 22; what++) {
            all.append(' ').append(x.count(what));
        }
        for (int t = 0; t < 4; t++) {
            for (int what = 0; what < 6; what++) {
                all.append(' ').append(x.told(t, what));
            }
        }
        int[] sorts = {0, 2, 1};
        for (int sheet = 0; sheet < 3; sheet++) {
            for (int i = 0; i < 5; i++) {
                all.append(' ').append(item(x, sheet, sorts[sheet], i));
            }
        }
        return all.toString();
    }

    private static void refused(String what, long want, Call call) {
        PutOut x = full();
        PutOut untouched = full();
        String before = state(x);
        due(what, call.on(x), want);
        due(what + " changed something", state(x).equals(before) ? 0 : 1, 0);
        PutOut y = full();
        call.on(y);
        due(what + " changed something inside", depths(y).equals(depths(untouched)) ? 0 : 1, 0);
    }

    private static void ofPlacesAndThings() {
        refused("2: what", BAD, x -> x.set(6, 0, 0));
        refused("2: of", BAD, x -> x.set(3, 4, 0));
        refused("2: v", BAD, x -> x.set(0, 0, 16));
        refused("2: SEAT", BAD, x -> x.set(1, 0, 4));
        refused("2: NUMBER", BAD, x -> x.set(3, 0, 10));
        refused("2: GIVER", BAD, x -> x.set(4, 0, 4));
        refused("2: LOOK", BAD, x -> x.set(5, 0, -1));
        refused("3: KIND", BAD, x -> x.thing(6, 0, 0));
        refused("3: what", BAD, x -> x.thing(0, 100, 0));
        refused("3: GIVER", BAD, x -> x.thing(0, 0, -1));
        refused("4: THING", BAD, x -> x.put(4, 5));
        refused("4: PLACE", BAD, x -> x.put(0, 6));
        refused("4: another one is there", STATE, x -> x.put(3, 4));
        refused("4: it doesn't STAND there", STATE, x -> x.put(2, 5));
        refused("4: neither nor", STATE, x -> x.put(2, 4));
        refused("5: THING", NONE_SUCH, x -> x.told(4, 0));
        refused("5: what", NONE_SUCH, x -> x.told(0, 12));
    }

    private static void ofTexts() {
        refused("6: above", BAD, x -> x.feed(256));
        refused("6: below", BAD, x -> x.feed(-1));
        refused("8: above", BAD, x -> x.force(2));
        refused("8: below", BAD, x -> x.force(-1));
    }

    private static void ofDays() {
        refused("9: guests", BAD, x -> x.day(16, 0));
        refused("9: what", BAD, x -> x.day(0, 4));
        refused("10: guests", NONE_SUCH, x -> x.best(16, 0, NONE));
        refused("10: n", NONE_SUCH, x -> x.best(0, 6, NONE));
        refused("10: what", NONE_SUCH, x -> x.best(0, 0, 4));
        refused("11: guests", BAD, x -> x.tidy(16));
        refused("11: guests below", BAD, x -> x.tidy(-1));
        refused("12: what", NONE_SUCH, x -> x.once(4));
        refused("13: what", BAD, x -> x.week(3));
        refused("14: what", BAD, x -> x.dearest(2));
        refused("16: guest", BAD, x -> x.seat(4, 0));
        refused("16: day", BAD, x -> x.seat(0, 7));
    }

    private static void ofRooms() {
        refused("17: SHEET", BAD, x -> x.seen(4, 0));
        refused("17: what", BAD, x -> x.seen(0, 3));
        refused("17: missing", MISSING, x -> x.seen(3, 0));
        refused("17: size", BAD, x -> x.seen(1, 0));
        refused("17: no ROOM", STATE, x -> x.seen(2, 0));
        refused("18: SHEET", BAD, x -> x.film(4, 0));
        refused("18: guests", BAD, x -> x.film(0, 16));
        refused("20: n", PutOut.NO, x -> x.chance(0, 0, 0));
        refused("20: n above", PutOut.NO, x -> x.chance(0, 11, 1));
        refused("20: part", PutOut.NO, x -> x.chance(0, 1, 2));
        refused("23: what", BAD, x -> x.count(22));
    }

    private static void ofTheHost() {
        refused("24: SHEET", BAD, x -> x.sheet(4, 0, 1));
        refused("24: sort", BAD, x -> x.sheet(0, 3, 1));
        refused("24: n above", BAD, x -> x.sheet(0, 0, 41));
        refused("24: n below", NEGATIVE, x -> x.sheet(0, 0, -1));
        refused("25: SHEET", BAD, x -> x.cell(4, 0, 9));
        refused("25: missing", MISSING, x -> x.cell(3, 0, 9));
        refused("25: outside", OUTSIDE, x -> x.cell(0, 4, 9));
        refused("25: outside below", OUTSIDE, x -> x.cell(0, -1, 9));
        refused("26: SHEET", BAD, x -> x.copy(4, 0, 0, 0, 1));
        refused("26: other", BAD, x -> x.copy(0, 0, 4, 0, 1));
        refused("26: missing", MISSING, x -> x.copy(0, 0, 3, 0, 1));
        refused("26: unlike", UNLIKE, x -> x.copy(0, 0, 1, 0, 1));
        refused("26: outside", OUTSIDE, x -> x.copy(1, 0, 1, 1, 5));
        refused("26: below", OUTSIDE, x -> x.copy(1, 0, 1, 1, -1));
        refused("27: SHEET", BAD, x -> x.things(4, 0, 0, 1));
        refused("27: sort", BAD, x -> x.things(0, 3, 0, 1));
        refused("27: n", BAD, x -> x.things(0, 0, 0, 6));
        refused("27: unlike", UNLIKE, x -> x.things(0, 1, 0, 1));
        refused("27: missing", MISSING, x -> x.things(3, 0, 0, 1));
        refused("27: outside", OUTSIDE, x -> x.things(0, 0, 2, 1));
        refused("27: left out", 0, x -> x.things(1, 2, 2, 1));
        refused("28: k", BAD, x -> x.taken(0, 6));
        refused("28: THING", MISSING, x -> x.taken(4, 0));
        refused("28: KIND", UNLIKE, x -> x.taken(0, 1));
    }

    private static void ofSomeThatAreFull() {
        PutOut x = full();
        x.thing(1, 12, 1);
        String before = state(x);
        due("3: FULL", x.thing(1, 12, 1), FULL);
        due("3: nothing changed", state(x).equals(before) ? 1 : 0, 1);
        PutOut y = full();
        feed(y, " ".repeat(156));
        before = state(y);
        due("6: FULL", y.feed(' '), FULL);
        due("6: nothing changed", state(y).equals(before) ? 1 : 0, 1);
        due("7: THE TAPE as it was", y.text(), -101);
        PutOut z = full();
        z.text();
        for (int i = 2; i < 6; i++) {
            due("7: TEXT " + i, text(z, "moves 1;ugly 1;minds 1;"), i);
        }
        feed(z, "abc");
        before = state(z);
        due("7: FULL", z.text(), FULL);
        due("7: nothing changed", state(z).equals(before) ? 1 : 0, 1);
        PutOut none = new PutOut();
        none.thing(0, 0, 0);
        before = state(none);
        due("22: STATE", none.back(), STATE);
        due("22: nothing changed", state(none).equals(before) ? 1 : 0, 1);
    }

    // An object is used for at most 512 calls after it has been made
    private static void used512Times() {
        PutOut x = new PutOut();
        x.image();
        for (int i = 1; i < 255; i++) {
            due("3: each time THING 0", x.thing(i % 6, 99, 3), 0);
            due("22: and none again", x.back(), 0);
        }
        due("3: call 510", x.thing(4, 99, 3), 0);
        due("9: call 511", x.day(15, 0), 80);
        PutOut fresh = new PutOut();
        fresh.thing(4, 99, 3);
        due("20: call 512", x.chance(MOST, 10, 1), fresh.chance(MOST, 10, 1));
        PutOut y = new PutOut();
        for (int t = 0; t < 5; t++) {
            y.thing(4, 90 + t, t % 4);
        }
        days(y, 15, 1, 2, 4, 8, 15, 3);
        long chance = y.chance(LEAST, 10, 0);
        int week = y.week(0);
        int least = y.dearest(1);
        int give = y.give();
        for (int i = 0; i < 124; i++) {
            due("20: the same again", y.chance(LEAST, 10, 0), chance);
            due("13: the same again", y.week(0), week);
            due("14: the same again", y.dearest(1), least);
            due("15: the same again", y.give(), give);
        }
    }

    private static void nothingIsSharedByObjects() {
        PutOut x = full();
        PutOut y = new PutOut();
        String before = state(new PutOut());
        due("1: nothing is shared", state(y).equals(before) ? 1 : 0, 1);
        x.tidy(15);
        x.image();
        x.set(0, 0, 0);
        due("1: still nothing", state(y).equals(before) ? 1 : 0, 1);
        due("22: no IMAGE", y.back(), STATE);
        due("7: no TAPE", y.text(), -100);
    }
}
