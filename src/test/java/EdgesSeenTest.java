/** The edges of promises 17 to 23: a ROOM that was seen, film, weeks that are drawn, THE IMAGE, count: a test for each. */
final class EdgesSeenTest extends Scene {
    public static void main(String[] args) {
        seenIsBadAheadOfMissing();
        seenMissingAheadOfSize();
        seenSizeIsHowManyThings();
        seenSizeAheadOfState();
        seenStateByPlaces();
        seenStateByStands();
        seenOtherNumbersAreNowhere();
        seenOfAnySort();
        expectedOfNothing();
        expectedAllSets();
        expectedNone();
        expectedTheLeast();
        expectedOneOfLikeRooms();
        expectedNeitherByGoesNorByDays();
        surprisedAlone();
        surprisedAboveZero();
        surprisedWithoutMinds();
        filmIsBad();
        filmTakesTheSheet();
        filmOfNothing();
        filmTellsNowhere();
        filmChangesNothingElse();
        drawnWrapsAround();
        drawnKeepsDays();
        chanceIsNo();
        chanceInLowestTerms();
        chanceSeedsWrapAround();
        chanceCountsLikeOnes();
        imageHowMany();
        imageIsReplaced();
        imageDoesNotFollow();
        backWithoutImage();
        backLaysAllBack();
        backTwice();
        backLeavesTheRest();
        backToNothing();
        backToFewerThings();
        countIsBad();
        countOfAll();
        CHECKS.end();
    }

    private static PutOut things(int kind, int what, int giver, int n) {
        PutOut x = new PutOut();
        for (int t = 0; t < n; t++) {
            x.thing(kind, what, giver);
        }
        return x;
    }

    // 17: BAD: SHEET, what; -11
    private static void seenIsBadAheadOfMissing() {
        PutOut x = things(0, 0, 0, 1);
        due("17: SHEET -1", x.seen(-1, 0), BAD);
        due("17: SHEET 4", x.seen(4, 0), BAD);
        due("17: what -1, missing", x.seen(0, -1), BAD);
        due("17: what 3, missing", x.seen(0, 3), BAD);
        for (int far : FAR) {
            due("17: SHEET " + far, x.seen(far, 0), BAD);
            due("17: what " + far, x.seen(0, far), BAD);
        }
        row(x, 3, 0);
        due("17: SHEET 3", x.seen(3, 2), 0);
    }

    // -11; BAD: its size isn't how many THINGS there are
    private static void seenMissingAheadOfSize() {
        PutOut x = things(0, 0, 0, 1);
        for (int sheet = 0; sheet < 4; sheet++) {
            due("17: missing", x.seen(sheet, 0), MISSING);
        }
        PutOut none = new PutOut();
        due("17: missing, though there is nothing to tell", none.seen(0, 0), MISSING);
        row(x, 0, 0);
        due("17: there", x.seen(0, 2), 0);
        x.sheet(0, -1, 1);
        due("17: missing again", x.seen(0, 2), MISSING);
    }

    private static void seenSizeIsHowManyThings() {
        for (int n = 0; n <= 5; n++) {
            PutOut x = things(0, 0, 0, n);
            for (int size = 0; size <= 7; size++) {
                x.sheet(1, 0, size);
                for (int i = 0; i < size; i++) {
                    x.cell(1, i, i);
                }
                due("17: size " + size + " of " + n, x.seen(1, 2), size == n ? 0 : BAD);
            }
            x.sheet(1, 2, 40);
            due("17: size 40", x.seen(1, 2), BAD);
        }
    }

    // BAD: its size ..; STATE: it is no ROOM
    private static void seenSizeAheadOfState() {
        PutOut x = things(0, 0, 0, 3);
        row(x, 0, 1, 1);
        due("17: too small, and no ROOM", x.seen(0, 0), BAD);
        row(x, 0, 1, 1, 1, 1);
        due("17: too large, and no ROOM", x.seen(0, 0), BAD);
        row(x, 0, 1, 1, 1);
        due("17: no ROOM", x.seen(0, 0), STATE);
    }

    // no two on one PLACE
    private static void seenStateByPlaces() {
        PutOut x = things(0, 0, 0, 5);
        for (int what = 0; what < 3; what++) {
            row(x, 0, 5, 4, 3, 2, 5);
            due("17: the first and the last", x.seen(0, what), STATE);
            row(x, 0, 0, 1, 2, 0, 3);
            due("17: PLACE 0 twice", x.seen(0, what), STATE);
        }
        row(x, 0, 5, 4, 3, 2, 1);
        due("17: five PLACES", x.seen(0, 2), 0);
        row(x, 0, -1, 4, -1, 6, -1);
        due("17: nowhere is no PLACE", x.seen(0, 2), 1);
        x.put(0, 4);
        due("17: where they are now does not matter", x.seen(0, 2), 1);
    }

    // each where it STANDS
    private static void seenStateByStands() {
        String[] where = {"111111", "101010", "111100", "001010", "111100", "111111"};
        for (int kind = 0; kind < 6; kind++) {
            PutOut x = things(kind, 0, 0, 1);
            for (int p = 0; p < 6; p++) {
                row(x, 2, p);
                due("17: KIND " + kind + " on PLACE " + p, x.seen(2, 2), where[kind].charAt(p) == '1' ? 0 : STATE);
            }
            row(x, 2, 6);
            due("17: KIND " + kind + " nowhere", x.seen(2, 2), kind == 5 ? 0 : 1);
        }
    }

    // SEEN: .. its PLACE, or another number: nowhere.
    private static void seenOtherNumbersAreNowhere() {
        PutOut x = things(3, 0, 2, 2);
        int[] others = {-1, 6, -2, 7, 99, 255, 256, Integer.MAX_VALUE, Integer.MIN_VALUE, -6};
        for (int v : others) {
            row(x, 0, v, v);
            due("17: " + v, x.seen(0, 2), 4);
            row(x, 0, 2, v);
            due("17: one PUT, " + v, x.seen(0, 2), 4);
        }
        row(x, 0, 2, 4);
        due("17: both PUT", x.seen(0, 2), 0);
    }

    private static void seenOfAnySort() {
        // 258 is 2 as a byte; 65540 is 4 as a short.
        int[][] rows = {{258, 260}, {65538, 65540}, {2, 4}};
        for (int sort = 0; sort < 3; sort++) {
            PutOut x = things(3, 0, 2, 2);
            rowOf(x, sort, sort, rows[sort]);
            due("17: both PUT, sort " + sort, x.seen(sort, 2), 0);
            rowOf(x, sort, sort, 2, 511);
            due("17: one nowhere, sort " + sort, x.seen(sort, 2), 4);
        }
        PutOut y = things(0, 0, 0, 1);
        rowOf(y, 0, 1, 256);
        due("17: 256 is nowhere as a short", y.seen(0, 2), 1);
        rowOf(y, 0, 2, 65536);
        due("17: 65536 is nowhere as an int", y.seen(0, 2), 1);
        rowOf(y, 0, 0, 256);
        due("17: 256 is 0 as a byte", y.seen(0, 2), 0);
    }

    // EXPECTED
    private static void expectedOfNothing() {
        PutOut x = new PutOut();
        x.sheet(0, 0, 0);
        due("17: all sets", x.seen(0, 0), 16);
        due("17: the least", x.seen(0, 1), 0);
        due("17: nobody is SURPRISED", x.seen(0, 2), 0);
    }

    // sets of GUESTS (16)
    private static void expectedAllSets() {
        PutOut x = new PutOut();
        for (int g = 0; g < 4; g++) {
            x.thing(0, 0, g);
        }
        for (int guests = 0; guests < 16; guests++) {
            int[] seen = new int[4];
            for (int g = 0; g < 4; g++) {
                seen[g] = (guests >> g & 1) == 1 ? g + 1 : NONE;
            }
            row(x, 0, seen);
            due("17: of these alone", x.seen(0, 0), 1);
            due("17: " + guests, x.seen(0, 1), guests);
            due("17: the others are SURPRISED", x.seen(0, 2), 15 - guests);
        }
    }

    // the least as bits (NONE)
    private static void expectedNone() {
        PutOut x = things(5, 0, 0, 1);
        row(x, 0, 0);
        due("17: nobody PUTS out what is BROKEN", x.seen(0, 0), 0);
        due("17: NONE", x.seen(0, 1), NONE);
        row(x, 0, 6);
        due("17: nowhere", x.seen(0, 0), 16);
        due("17: nobody at least", x.seen(0, 1), 0);
    }

    private static void expectedTheLeast() {
        for (int g = 0; g < 4; g++) {
            PutOut x = things(0, 0, g, 1);
            row(x, 0, 3);
            due("17: all sets with GUEST " + g, x.seen(0, 0), 8);
            due("17: GUEST " + g + " alone", x.seen(0, 1), 1 << g);
        }
    }

    // one of those whose BAD DAY is least
    private static void expectedOneOfLikeRooms() {
        PutOut x = by("moves 1;ugly 20;minds 20;");
        x.thing(0, 0, 1);
        row(x, 0, 5);
        due("17: PUT out is as bad as MISSED", x.seen(0, 0), 8);
        row(x, 0, -1);
        due("17: nowhere is so for all", x.seen(0, 0), 16);
        PutOut y = by("moves 1;ugly 21;minds 20;");
        y.thing(0, 0, 1);
        row(y, 0, 5);
        due("17: worse by 1", y.seen(0, 0), 0);
        PutOut z = by("moves 1;ugly place;minds 20;");
        z.thing(0, 0, 1);
        row(z, 0, 1);
        due("17: another PLACE is better by 1", z.seen(0, 0), 0);
        row(z, 0, 0);
        due("17: the best PLACE", z.seen(0, 0), 16);
    }

    private static void expectedNeitherByGoesNorByDays() {
        PutOut x = by("moves 99;ugly 0;minds 20;");
        x.thing(0, 0, 1);
        row(x, 0, 4);
        due("17: from nowhere", x.seen(0, 0), 16);
        days(x, 15, 15, 15, 15, 15, 15, 15);
        x.put(0, 2);
        due("17: from PLACE 2", x.seen(0, 0), 16);
        row(x, 0, -1);
        due("17: nowhere", x.seen(0, 0), 8);
        x.set(0, 4, 0);
        row(x, 0, 4);
        due("17: by SIGHT", x.seen(0, 0), 8);
        x.set(0, 4, 1);
        due("17: by SIGHT of SEAT 0", x.seen(0, 0), 8);
        x.set(1, 1, 0);
        due("17: by her SEAT", x.seen(0, 0), 16);
    }

    // SURPRISED: GUESTS (bits) each of whom alone, ..
    private static void surprisedAlone() {
        PutOut x = new PutOut();
        for (int g = 0; g < 4; g++) {
            x.thing(g, 0, g);
        }
        x.thing(4, 0, 0);
        row(x, 0, -1, -1, -1, -1, -1);
        due("17: all", x.seen(0, 2), 15);
        row(x, 0, 1, 0, 3, 2, -1);
        due("17: GUEST 0 by the VASE", x.seen(0, 2), 1);
        row(x, 0, -1, 0, 3, 2, 1);
        due("17: GUEST 0 by the THING", x.seen(0, 2), 1);
        row(x, 0, 5, 0, 3, 4, 1);
        due("17: nobody", x.seen(0, 2), 0);
        x.set(0, 4, 7);
        due("17: GUEST 3 doesn't SEE the PORTRAIT", x.seen(0, 2), 8);
    }

    // (MISSED above 0)
    private static void surprisedAboveZero() {
        int[] want = {8, 8, 8, 8, 8, 0};
        for (int kind = 0; kind < 6; kind++) {
            PutOut x = things(kind, 0, 3, 1);
            row(x, 0, -1);
            due("17: KIND " + kind, x.seen(0, 2), want[kind]);
        }
    }

    private static void surprisedWithoutMinds() {
        PutOut x = by("moves 0;ugly 0;minds 0;");
        x.thing(0, 0, 3);
        row(x, 0, -1);
        due("17: SURPRISED though minds is 0", x.seen(0, 2), 8);
        due("17: nobody minds", x.seen(0, 0), 16);
    }

    // 18: BAD.
    private static void filmIsBad() {
        PutOut x = things(0, 0, 0, 1);
        due("18: SHEET -1", x.film(-1, 0), BAD);
        due("18: SHEET 4", x.film(4, 0), BAD);
        due("18: guests -1", x.film(0, -1), BAD);
        due("18: guests 16", x.film(0, 16), BAD);
        for (int far : FAR) {
            due("18: SHEET " + far, x.film(far, 0), BAD);
            due("18: guests " + far, x.film(0, far), BAD);
        }
        due("18: SHEET 0 is missing still", x.seen(0, 0), MISSING);
        row(x, 0, 7, 7);
        due("18: guests 16", x.film(0, 16), BAD);
        due("18: SHEET 0 stays", size(x, 0), 2);
        due("18: the last", x.film(3, 15), 1);
    }

    // A SHEET truly becomes the ROOM
    private static void filmTakesTheSheet() {
        PutOut x = things(0, 9, 0, 4);
        for (int sheet = 0; sheet < 3; sheet++) {
            x.sheet(sheet, sheet, 40);
            for (int i = 0; i < 40; i++) {
                x.cell(sheet, i, 77);
            }
            due("18: how many", x.film(sheet, 1), 4);
            due("18: its size", size(x, sheet), 4);
            due("18: bytes", x.things(sheet, 0, 0, 0), 0);
            due("18: no shorts", x.things(sheet, 1, 0, 0), UNLIKE);
            for (int t = 0; t < 4; t++) {
                due("18: PLACE of THING " + t, item(x, sheet, 0, t), t);
            }
        }
    }

    private static void filmOfNothing() {
        PutOut x = new PutOut();
        row(x, 1, 1, 2, 3);
        due("18: no THINGS", x.film(1, 15), 0);
        due("18: an empty row", size(x, 1), 0);
        due("18: all sets", x.seen(1, 0), 16);
    }

    // NONE: nowhere
    private static void filmTellsNowhere() {
        PutOut x = things(0, 0, 1, 2);
        due("18: nobody comes", x.film(0, 0), 2);
        due("18: SURPRISED", x.seen(0, 2), 2);
        due("18: nowhere is no number of a THING", item(x, 0, 0, 0), NONE);
        due("18: nowhere is no number of a THING", item(x, 0, 0, 1), NONE);
        // By n 5, not fewer.
        PutOut y = things(0, 0, 1, 5);
        due("18: all five", y.film(0, 2), 5);
        due("18: nobody SURPRISED", y.seen(0, 2), 0);
        // GOES count: it stays where it is.
        PutOut z = things(0, 9, 1, 1);
        z.put(0, 5);
        z.film(0, 2);
        due("18: it stays", item(z, 0, 0, 0), 5);
    }

    private static void filmChangesNothingElse() {
        PutOut x = things(0, 0, 1, 3);
        x.put(0, 5);
        x.film(0, 0);
        String before = state(x);
        x.film(0, 0);
        due("18: nothing else", state(x).equals(before) ? 1 : 0, 1);
        due("18: THING 0", x.told(0, 4), 5);
        due("18: one PUT", x.count(1), 1);
    }

    /** Who comes, by long arithmetic alone. */
    private static int[] daysOf(int seed) {
        int[] days = new int[7];
        long z = seed & 0xffffffffL;
        for (int d = 0; d < 7; d++) {
            z = (z * 1103515245L + 12345L) & 0xffffffffL;
            days[d] = (int) (z / 512 % 16);
        }
        return days;
    }

    /** Some THINGS whose WEEK tells DAYS from each other. */
    private static PutOut forWeeks() {
        PutOut x = by("moves 15+thing;ugly 1+place*2;minds 5+thing*7+guests;");
        x.thing(0, 0, 0);
        x.thing(2, 30, 1);
        x.thing(3, 5, 2);
        x.thing(4, 71, 3);
        x.put(1, 3);
        x.set(0, 2, 5);
        return x;
    }

    // z = z * 1103515245 + 12345 (an int; SEED at first): (z >>> 9) % 16 come
    private static void drawnWrapsAround() {
        int[] seeds = {0, 1, -1, 2, 12345, -12345, Integer.MAX_VALUE, Integer.MIN_VALUE, Integer.MIN_VALUE + 1, 65536};
        for (int seed : seeds) {
            PutOut x = forWeeks();
            int got = x.drawn(seed);
            days(x, daysOf(seed));
            due("19: SEED " + seed, got, x.week(0));
        }
        due("19: no THINGS", new PutOut().drawn(Integer.MIN_VALUE), 0);
    }

    private static void drawnKeepsDays() {
        PutOut x = forWeeks();
        days(x, 1, 2, 3, 4, 5, 6, 7);
        int week = x.week(0);
        x.drawn(5);
        x.chance(5, 10, 0);
        for (int d = 0; d < 7; d++) {
            due("19: DAY " + d, x.count(15 + d), d + 1);
        }
        due("19: WEEK", x.week(0), week);
        due("19: none PUT elsewhere", x.told(1, 4), 3);
        due("19: none PUT out", x.count(1), 1);
    }

    // 20: NO: n, part.
    private static void chanceIsNo() {
        PutOut x = things(0, 0, 0, 1);
        int[] wrong = {0, 11, -1, -10};
        for (int n : wrong) {
            due("20: n " + n, x.chance(0, n, 0), PutOut.NO);
            due("20: n " + n + ", part 2", x.chance(0, n, 2), PutOut.NO);
        }
        due("20: part -1", x.chance(0, 1, -1), PutOut.NO);
        due("20: part 2", x.chance(0, 1, 2), PutOut.NO);
        for (int far : FAR) {
            due("20: n " + far, x.chance(0, far, 0), PutOut.NO);
            due("20: part " + far, x.chance(0, 1, far), PutOut.NO);
        }
        PutOut none = new PutOut();
        due("20: n 1", none.chance(Integer.MIN_VALUE, 1, 1), 1);
        due("20: n 10", none.chance(Integer.MAX_VALUE, 10, 1), 1);
    }

    /** Of one seed: 1, if ONCE costs no more than WEEK. */
    private static int of(int seed) {
        PutOut x = forWeeks();
        days(x, daysOf(seed));
        return x.once(NONE) <= x.week(0) ? 1 : 0;
    }

    // part 0 above, 1 below the line, in lowest terms
    private static void chanceInLowestTerms() {
        int shortened = 0;
        for (int seed = -30; seed < 30; seed++) {
            int above = 0;
            PutOut x = forWeeks();
            for (int n = 1; n <= 10; n++) {
                above += of(seed + n - 1);
                int common = n;
                while (above % common != 0 || n % common != 0) {
                    common--;
                }
                shortened += common > 1 && above > 0 && above < n ? 1 : 0;
                due("20: above, SEED " + seed + ", n " + n, x.chance(seed, n, 0), above / common);
                due("20: below, SEED " + seed + ", n " + n, x.chance(seed, n, 1), n / common);
            }
        }
        due("20: some are shortened", shortened > 0 ? 1 : 0, 1);
        PutOut all = new PutOut();
        PutOut none = by("moves 0;ugly 10;minds 20;");
        none.thing(0, 0, 0);
        for (int n = 1; n <= 10; n++) {
            due("20: n of n", all.chance(0, n, 0), 1);
            due("20: n of n, below", all.chance(0, n, 1), 1);
            due("20: 0 of n", none.chance(1, n, 0), 0);
            due("20: 0 of n, below", none.chance(1, n, 1), 1);
        }
    }

    // SEED and each 1 more (an int)
    private static void chanceSeedsWrapAround() {
        int mixed = 0;
        for (int back = 0; back < 9; back++) {
            int seed = Integer.MAX_VALUE - back;
            int above = 0;
            for (int i = 0; i < 10; i++) {
                above += of(seed + i);
            }
            int common = above == 0 ? 10 : above % 10 == 0 ? 10 : above % 5 == 0 ? 5 : above % 2 == 0 ? 2 : 1;
            mixed += above > 0 && above < 10 ? 1 : 0;
            due("20: above, SEED " + seed, forWeeks().chance(seed, 10, 0), above / common);
            due("20: below, SEED " + seed, forWeeks().chance(seed, 10, 1), 10 / common);
        }
        due("20: some are neither 0 nor 1", mixed > 0 ? 1 : 0, 1);
    }

    // costs no more than WEEK
    private static void chanceCountsLikeOnes() {
        PutOut x = by("moves 0;ugly 0;minds 20;");
        x.thing(0, 0, 0);
        due("20: both cost 0", x.chance(7, 10, 0), 1);
        due("20: both cost 0, below", x.chance(7, 10, 1), 1);
    }

    // 21: AN IMAGE is kept: how many THINGS.
    private static void imageHowMany() {
        PutOut x = new PutOut();
        for (int n = 0; n <= 5; n++) {
            due("21: of " + n, x.image(), n);
            due("22: of " + n, x.back(), n);
            x.thing(0, 0, 0);
        }
    }

    private static void imageIsReplaced() {
        PutOut x = new PutOut();
        x.set(0, 0, 3);
        x.image();
        x.set(0, 0, 5);
        x.thing(0, 0, 0);
        due("21: another one", x.image(), 1);
        x.set(0, 0, 7);
        x.thing(0, 0, 0);
        due("22: the later one", x.back(), 1);
        due("22: its SIGHT", x.count(5), 5);
        due("22: still", x.back(), 1);
    }

    private static void imageDoesNotFollow() {
        PutOut x = things(0, 12, 1, 2);
        x.image();
        x.set(3, 0, 9);
        x.set(4, 0, 3);
        x.set(5, 1, 8);
        x.put(1, 4);
        x.set(1, 3, 0);
        x.set(2, 3, 9);
        x.back();
        due("22: NUMBER", x.told(0, 1), 1);
        due("22: GIVER", x.told(0, 2), 1);
        due("22: LOOK", x.told(1, 3), 2);
        due("22: nowhere", x.told(1, 4), NONE);
        due("22: SEAT", x.count(14), 3);
        due("22: DAY", x.count(18), 0);
        x.set(3, 0, 7);
        x.back();
        due("22: NUMBER once more", x.told(0, 1), 1);
    }

    // 22: STATE: there is none.
    private static void backWithoutImage() {
        PutOut x = things(0, 0, 0, 1);
        x.put(0, 3);
        due("22: none", x.back(), STATE);
        due("22: it stays", x.told(0, 4), 3);
        x.image();
        due("22: there is one", x.back(), 1);
        due("22: another object has none", new PutOut().back(), STATE);
    }

    // SIGHT, SEATS, DAYS, NUMBERS, GIVERS, LOOKS, where all are PUT, THE RULE (THINGS that came since go)
    private static void backLaysAllBack() {
        PutOut x = by("moves 7;ugly 1;minds 1;");
        for (int t = 0; t < 4; t++) {
            x.thing(t, 10 * t + t, t);
        }
        x.put(0, 1);
        x.put(1, 0);
        for (int p = 0; p < 6; p++) {
            x.set(0, p, p + 2);
        }
        for (int g = 0; g < 4; g++) {
            x.set(1, g, 3 - g);
        }
        days(x, 9, 8, 7, 6, 5, 4, 3);
        String before = state(x);
        x.image();
        for (int p = 0; p < 6; p++) {
            x.set(0, p, 15 - p);
        }
        for (int g = 0; g < 4; g++) {
            x.set(1, g, 2);
        }
        days(x, 1, 1, 1, 1, 1, 1, 1);
        for (int t = 0; t < 4; t++) {
            x.set(3, t, 9);
            x.set(4, t, 3 - t);
            x.set(5, t, 8);
        }
        x.put(0, NONE);
        x.put(1, 4);
        x.put(0, 0);
        x.put(2, 1);
        x.force(0);
        x.thing(5, 99, 3);
        x.put(4, 5);
        due("22: how many", x.back(), 4);
        due("22: all is as it was", state(x).equals(before) ? 1 : 0, 1);
        due("22: THE RULE", x.put(0, 5), 7);
        due("22: what came since is gone", x.told(4, 0), NONE_SUCH);
    }

    private static void backTwice() {
        PutOut x = things(2, 0, 0, 1);
        x.image();
        for (int i = 0; i < 3; i++) {
            due("3: another THING", x.thing(i, 0, 0), 1);
            due("5: its KIND", x.told(1, 0), i);
            due("5: it comes nowhere", x.told(1, 4), NONE);
            due("4: PLACE 2", x.put(1, 2), 1);
            due("22: it goes", x.back(), 1);
            due("22: PLACE 2 is free", x.put(0, 2), 1);
            due("22: back", x.back(), 1);
        }
    }

    // TEXTS, THE TAPE and SHEETS are not kept
    private static void backLeavesTheRest() {
        PutOut x = new PutOut();
        x.image();
        text(x, "moves 7;ugly 1;minds 1;");
        x.force(1);
        feed(x, "abc");
        row(x, 2, 1, 2, 3);
        due("22: back", x.back(), 0);
        due("22: THE RULE", x.count(4), 0);
        due("22: TEXT 1 is there", x.count(2), 2);
        due("22: THE TAPE stays", x.count(3), 3);
        due("22: SHEET 2 stays", size(x, 2), 3);
        due("22: an item stays", item(x, 2, 2, 1), 2);
        due("22: TEXT 1 may rule", x.force(1), 0);
    }

    private static void backToNothing() {
        PutOut x = new PutOut();
        x.image();
        for (int t = 0; t < 5; t++) {
            x.thing(0, 0, 0);
            x.put(t, t);
        }
        due("22: nothing", x.back(), 0);
        due("23: no THINGS", x.count(0), 0);
        due("23: none PUT", x.count(1), 0);
        due("9: nothing is ugly", x.day(15, 0), 0);
        due("3: a THING", x.thing(0, 0, 0), 0);
        due("4: PLACE 4 is free", x.put(0, 4), 1);
    }

    // THINGS that came since go: they are PUT nowhere, are MISSED by nobody, cost nothing
    private static void backToFewerThings() {
        for (int n = 0; n < 5; n++) {
            PutOut x = new PutOut();
            PutOut y = new PutOut();
            for (int t = 0; t < n; t++) {
                x.thing(t % 3, 10 * t, t % 4);
                y.thing(t % 3, 10 * t, t % 4);
            }
            days(x, 15, 7, 3, 1, 2, 4, 8);
            days(y, 15, 7, 3, 1, 2, 4, 8);
            x.image();
            for (int t = n; t < 5; t++) {
                x.thing(4, 90, t % 4);
            }
            for (int m = 0; m < 6; m++) {
                x.best(15, m, NONE);
            }
            due("22: all are dearer", x.week(0) > y.week(0) ? 1 : 0, 1);
            x.tidy(15);
            due("22: back to " + n, x.back(), n);
            for (int m = 0; m < 6; m++) {
                due("22: BEST of " + n + ", n " + m, x.best(15, m, NONE), y.best(15, m, NONE));
            }
            due("22: WEEK of " + n, x.week(0), y.week(0));
            due("22: ONCE of " + n, x.once(NONE), y.once(NONE));
            due("22: MISSED of " + n, x.day(15, 1), y.day(15, 1));
            due("22: SAFE of " + n, x.day(0, 3), (1 << n) - 1);
            due("18: film of " + n, x.film(0, 15), n);
            due("17: seen of " + n, x.seen(0, 2), 0);
        }
    }

    // 23: BAD.
    private static void countIsBad() {
        PutOut x = new PutOut();
        due("23: -1", x.count(-1), BAD);
        due("23: 22", x.count(22), BAD);
        due("23: 21", x.count(21), 0);
        for (int far : FAR) {
            due("23: " + far, x.count(far), BAD);
        }
    }

    private static void countOfAll() {
        PutOut x = new PutOut();
        for (int p = 0; p < 6; p++) {
            x.set(0, p, 15 - p);
        }
        for (int g = 0; g < 4; g++) {
            x.set(1, g, (g + 1) % 4);
        }
        for (int d = 0; d < 7; d++) {
            x.set(2, d, 2 * d + 1);
        }
        int[] want = {0, 0, 1, 0, 0, 15, 14, 13, 12, 11, 10, 1, 2, 3, 0, 1, 3, 5, 7, 9, 11, 13};
        for (int what = 0; what < want.length; what++) {
            due("23: what " + what, x.count(what), want[what]);
        }
        for (int t = 0; t < 5; t++) {
            x.thing(0, 0, 0);
            due("23: THINGS", x.count(0), t + 1);
            due("23: PUT so far", x.count(1), t);
            x.put(t, t);
            due("23: PUT", x.count(1), t + 1);
        }
        x.put(2, NONE);
        due("23: one less", x.count(1), 4);
    }
}
