/** The edges of promises 9 to 16: a BAD DAY, BEST, ONCE, WEEK, and whom or what they tell: a test for each sentence. */
final class EdgesDaysTest extends Scene {
    public static void main(String[] args) {
        badDayOfNothing();
        badDayOfAll();
        dayIsBad();
        allThingsAsBits();
        missedAndOffendsDoNotAskMinds();
        safeIsAllButUgly();
        bestIsNoneSuch();
        bestOfNothing();
        bestByNoGo();
        bestByAtMostN();
        bestByMoreThanThereAre();
        nowhereIsAheadOfAll();
        theFirstByThing0ThenThing1();
        theFirstByPlace();
        twoNeverShareAPlace();
        bestMayChangePlaces();
        bestChangesNothing();
        goesToNowhereCost();
        tidyIsBad();
        tidyIsBestTruly();
        onceIsNoneSuch();
        onceOfAllSevenDays();
        onceTheFirstOfLikeOnes();
        onceIsFromNow();
        weekIsBad();
        weekOfNothing();
        weekFromDay0On();
        weekFromTheRoomOfTheDayAhead();
        weekCountsThingsAndDays();
        weekIsGreedy();
        dearestIsBad();
        dearestOfLikeOnesTheFirst();
        dearestByAllDays();
        dearestThoughWeekIsLess();
        giveNone();
        giveOnlyIfLess();
        giveOfLikeOnesTheFirst();
        giveMindsByHowManyAreThere();
        giveForEachDayOfTheGiver();
        seatIsBad();
        seatOfLikeOnesTheFirst();
        seatOfWhoDoesNotCome();
        seatByTheRoomOfNow();
        seatThoughNoneIsGood();
        CHECKS.end();
    }

    private static PutOut things(int kind, int what, int giver, int n) {
        PutOut x = new PutOut();
        for (int t = 0; t < n; t++) {
            x.thing(kind, what, giver);
        }
        return x;
    }

    private static void room(String what, PutOut x, int guests, int n, int... places) {
        for (int t = 0; t < places.length; t++) {
            due(what + ", THING " + t, x.best(guests, n, t), places[t]);
        }
    }

    // 9
    private static void badDayOfNothing() {
        PutOut x = new PutOut();
        for (int what = 0; what < 4; what++) {
            due("9: no THINGS, what " + what, x.day(15, what), 0);
        }
        x.thing(0, 0, 0);
        due("9: nobody is there", x.day(0, 0), 0);
        due("9: nothing is MISSED", x.day(0, 1), 0);
        due("9: nothing OFFENDS", x.day(0, 2), 0);
        due("9: it is SAFE", x.day(0, 3), 1);
    }

    // BAD DAY: minds times MISSED ..; minds times OFFENDS ..; ugly, if it is PUT anywhere; all together
    private static void badDayOfAll() {
        PutOut x = by("moves 0;ugly 99;minds 99;");
        for (int t = 0; t < 5; t++) {
            x.thing(4, 90, 3);
        }
        // Four are PUT where SEATS 0 .. 2 see them, and not the GIVER: VASES, NUMBER 9, offend GUEST 1.
        for (int t = 0; t < 4; t++) {
            x.set(0, t, 7);
            x.put(t, t);
        }
        due("9: the worst", x.day(15, 0), 5 * 4 * 99 + 4 * 2 * 99 + 4 * 99);
        due("9: GUEST 1 alone", x.day(2, 0), 4 * 2 * 99 + 4 * 99);
        due("9: GUEST 3 alone", x.day(8, 0), 5 * 4 * 99 + 4 * 99);
        due("9: nobody", x.day(0, 0), 4 * 99);
    }

    // 9: BAD.
    private static void dayIsBad() {
        PutOut x = things(0, 0, 0, 1);
        due("9: the least", x.day(0, 0), 0);
        due("9: the largest", x.day(15, 3), 0);
        due("9: guests -1", x.day(-1, 0), BAD);
        due("9: guests 16", x.day(16, 0), BAD);
        due("9: what -1", x.day(0, -1), BAD);
        due("9: what 4", x.day(0, 4), BAD);
        for (int far : FAR) {
            due("9: guests " + far, x.day(far, 0), BAD);
            due("9: what " + far, x.day(0, far), BAD);
        }
    }

    // THINGS (bits)
    private static void allThingsAsBits() {
        PutOut x = things(2, 19, 0, 5);
        due("9: all MISSED", x.day(1, 1), 31);
        due("9: none SAFE", x.day(1, 3), 0);
        due("9: all SAFE", x.day(2, 3), 31);
        for (int t = 0; t < 4; t++) {
            x.put(t, t);
            due("9: PUT ones are MISSED no more", x.day(1, 1), 31 & -2 << t);
            due("9: PUT ones OFFEND GUEST 1", x.day(2, 2), (2 << t) - 1);
            due("9: PUT ones are not SAFE", x.day(2, 3), 31 & -2 << t);
        }
    }

    // (1; MISSED above 0), that OFFEND anybody (2)
    private static void missedAndOffendsDoNotAskMinds() {
        PutOut x = by("moves 0;ugly 0;minds 0;");
        x.thing(0, 0, 0);
        x.thing(5, 0, 0);
        x.thing(5, 0, 1);
        x.put(2, 0);
        due("9: all together", x.day(15, 0), 0);
        due("9: a THING is MISSED, a BROKEN one never", x.day(15, 1), 1);
        due("9: the BROKEN one that is PUT", x.day(15, 2), 4);
        due("9: its GIVER is not offended", x.day(2, 2), 0);
        due("9: nobody minds", x.day(15, 3), 7);
    }

    // SAFE: THINGS (bits) of which nothing but ugly comes to the BAD DAY of the ROOM of now.
    private static void safeIsAllButUgly() {
        PutOut x = things(0, 0, 2, 1);
        due("9: MISSED is not SAFE", x.day(4, 3), 0);
        due("9: who isn't there doesn't miss it", x.day(11, 3), 1);
        x.put(0, 0);
        due("9: ugly alone", x.day(15, 0), 9);
        due("9: ugly alone is SAFE", x.day(15, 3), 1);
        x.set(0, 0, 11);
        due("9: he doesn't SEE it", x.day(4, 3), 0);
        PutOut y = things(5, 0, 2, 1);
        due("9: a BROKEN one nowhere is SAFE", y.day(15, 3), 1);
        y.put(0, 0);
        due("9: it OFFENDS", y.day(1, 3), 0);
        due("9: not its GIVER", y.day(4, 3), 1);
    }

    // 10: -100: none such.
    private static void bestIsNoneSuch() {
        PutOut x = things(0, 0, 0, 2);
        due("10: the least", x.best(0, 0, NONE), 0);
        due("10: the largest", x.best(15, 5, 1), 1);
        due("10: guests -1", x.best(-1, 0, NONE), NONE_SUCH);
        due("10: guests 16", x.best(16, 0, NONE), NONE_SUCH);
        due("10: n -1", x.best(0, -1, NONE), NONE_SUCH);
        due("10: n 6", x.best(0, 6, NONE), NONE_SUCH);
        due("10: what -2", x.best(0, 0, -2), NONE_SUCH);
        due("10: what 2", x.best(0, 0, 2), NONE_SUCH);
        for (int far : FAR) {
            due("10: guests " + far, x.best(far, 0, NONE), NONE_SUCH);
            due("10: n " + far, x.best(0, far, NONE), NONE_SUCH);
            due("10: what " + far, x.best(0, 0, far), NONE_SUCH);
        }
    }

    private static void bestOfNothing() {
        PutOut x = new PutOut();
        for (int n = 0; n < 6; n++) {
            due("10: no THINGS", x.best(15, n, NONE), 0);
        }
        due("10: no THING 0", x.best(15, 5, 0), NONE_SUCH);
    }

    // n (0 .. 5): at most n THINGS are PUT otherwise
    private static void bestByNoGo() {
        PutOut x = things(5, 0, 0, 3);
        x.put(0, 4);
        x.put(2, 1);
        due("10: it stays as it is", x.best(15, 0, NONE), 2 * (9 + 60));
        room("10: n 0", x, 15, 0, 4, NONE, 1);
        due("10: one goes", x.best(15, 1, NONE), 1 + 9 + 60);
        room("10: n 1", x, 15, 1, NONE, NONE, 1);
        due("10: both go", x.best(15, 2, NONE), 2);
        room("10: n 2", x, 15, 2, NONE, NONE, NONE);
    }

    private static void bestByAtMostN() {
        for (int there = 1; there <= 5; there++) {
            PutOut x = things(0, 9, 0, there);
            for (int n = 0; n <= 5; n++) {
                int goes = Math.min(n, there);
                due("10: n " + n + " of " + there, x.best(1, n, NONE), goes + 20 * (there - goes));
                for (int t = 0; t < there; t++) {
                    int first = there - goes;
                    due("10: n " + n + " of " + there + ", THING " + t, x.best(1, n, t), t < first ? NONE : t - first);
                }
            }
        }
    }

    // fewer goes than allowed are fine
    private static void bestByMoreThanThereAre() {
        PutOut x = things(0, 9, 0, 4);
        x.put(0, 3);
        x.put(1, 5);
        for (int n = 0; n <= 5; n++) {
            due("10: nobody comes, n " + n, x.best(0, n, NONE), 0);
            room("10: all stay, n " + n, x, 0, n, 3, 5, NONE, NONE);
        }
    }

    // nowhere ahead of all
    private static void nowhereIsAheadOfAll() {
        PutOut x = by("moves 0;ugly 0;minds 0;");
        x.thing(0, 0, 0);
        x.thing(3, 0, 1);
        x.put(0, 0);
        x.put(1, 4);
        room("10: of like ones", x, 15, 5, NONE, NONE);
        room("10: of like ones by one go", x, 15, 1, NONE, 4);
        room("10: of like ones by no go", x, 15, 0, 0, 4);
        due("12: of like ones", x.once(0), NONE);
        due("12: of like ones", x.once(1), NONE);
    }

    // by THING 0's PLACE, .. then THING 1's, ..
    private static void theFirstByThing0ThenThing1() {
        PutOut x = things(0, 9, 0, 2);
        for (int p = 0; p < 6; p++) {
            x.set(0, p, p == 3 ? 1 : 0);
        }
        due("10: one alone can be seen", x.best(1, 5, NONE), 21);
        room("10: THING 0 nowhere is ahead", x, 1, 5, NONE, 3);
        x.set(0, 5, 1);
        due("10: two PLACES", x.best(1, 5, NONE), 2);
        room("10: THING 0 on the first", x, 1, 5, 3, 5);
        PutOut y = things(0, 9, 0, 5);
        room("10: one after the other", y, 1, 5, 0, 1, 2, 3, 4);
        y.set(0, 0, 0);
        room("10: PLACE 0 can't be seen", y, 1, 5, 1, 2, 3, 4, 5);
    }

    private static void theFirstByPlace() {
        int[] first = {0, 0, 0, 2, 0, 0};
        for (int kind = 0; kind < 5; kind++) {
            PutOut x = things(kind, 9, 0, 1);
            due("10: the first PLACE of KIND " + kind, x.best(1, 5, 0), first[kind]);
        }
        PutOut x = things(0, 9, 0, 1);
        for (int p = 0; p < 5; p++) {
            x.set(0, p, 14);
            due("10: the first that is seen", x.best(1, 5, 0), p + 1);
        }
        x.set(0, 5, 14);
        due("10: none is seen", x.best(1, 5, 0), NONE);
        due("10: MISSED then", x.best(1, 5, NONE), 20);
    }

    // no two on one PLACE, each where it STANDS
    private static void twoNeverShareAPlace() {
        PutOut x = things(3, 9, 0, 3);
        due("10: three PORTRAITS, two PLACES", x.best(1, 5, NONE), 1 + 1 + 40);
        room("10: the first is nowhere", x, 1, 5, NONE, 2, 4);
        PutOut y = things(2, 9, 0, 5);
        due("10: five CLOCKS, four PLACES", y.best(1, 5, NONE), 4 + 40);
        room("10: the first is nowhere", y, 1, 5, NONE, 0, 1, 2, 3);
    }

    private static void bestMayChangePlaces() {
        PutOut x = things(0, 9, 0, 1);
        x.thing(0, 9, 1);
        for (int p = 0; p < 6; p++) {
            x.set(0, p, p == 0 ? 1 : p == 1 ? 2 : 0);
        }
        x.put(0, 1);
        x.put(1, 0);
        due("10: as it is", x.best(3, 0, NONE), 40);
        due("10: by one go none is better", x.best(3, 1, NONE), 40);
        due("10: they change PLACES", x.best(3, 2, NONE), 2);
        room("10: changed", x, 3, 2, 0, 1);
    }

    private static void bestChangesNothing() {
        PutOut x = things(0, 0, 0, 2);
        x.put(0, 5);
        days(x, 1, 2, 3, 4, 5, 6, 7);
        String before = state(x);
        x.best(1, 5, NONE);
        x.best(0, 5, 0);
        x.once(NONE);
        x.once(1);
        x.week(0);
        x.dearest(0);
        x.dearest(1);
        x.give();
        x.seat(1, 1);
        x.day(15, 0);
        x.drawn(5);
        x.chance(1, 2, 0);
        due("10: nothing changed", state(x).equals(before) ? 1 : 0, 1);
    }

    // GOES: of each THING that is PUT otherwise moves
    private static void goesToNowhereCost() {
        PutOut x = by("moves place*place;ugly 40;minds 0;");
        x.thing(0, 0, 0);
        x.put(0, 3);
        due("10: 36 to nowhere is less than 40", x.best(15, 5, NONE), 36);
        due("10: nowhere", x.best(15, 5, 0), NONE);
        x.put(0, NONE);
        due("10: to stay costs nothing", x.best(15, 5, NONE), 0);
        PutOut y = by("moves place*place;ugly 36;minds 0;");
        y.thing(5, 0, 0);
        y.put(0, 3);
        due("10: 36 to nowhere, 36 to stay", y.best(15, 5, NONE), 36);
        due("10: nowhere is ahead", y.best(15, 5, 0), NONE);
    }

    // 11: BAD.
    private static void tidyIsBad() {
        PutOut x = things(0, 0, 0, 1);
        x.put(0, 5);
        due("11: -1", x.tidy(-1), BAD);
        due("11: 16", x.tidy(16), BAD);
        for (int far : FAR) {
            due("11: " + far, x.tidy(far), BAD);
        }
        due("11: it stays", x.told(0, 4), 5);
        due("11: 15 is fine", x.tidy(15), 9);
        due("11: 0 is fine", x.tidy(0), 1);
        due("11: no THINGS", new PutOut().tidy(15), 0);
    }

    // 11: BEST truly (n 5): what it costs.
    private static void tidyIsBestTruly() {
        PutOut x = things(0, 9, 0, 5);
        due("11: five goes", x.tidy(1), 5);
        for (int t = 0; t < 5; t++) {
            due("11: THING " + t, x.told(t, 4), t);
        }
        due("11: once more", x.tidy(1), 0);
        due("11: what isn't ugly stays", x.tidy(0), 0);
        due("23: all PUT", x.count(1), 5);
        for (int t = 0; t < 5; t++) {
            x.set(5, t, 0);
        }
        due("11: what is ugly goes", x.tidy(0), 5);
        due("23: none PUT", x.count(1), 0);
    }

    // 12: -100: none such.
    private static void onceIsNoneSuch() {
        PutOut x = things(0, 0, 0, 1);
        due("12: NONE", x.once(NONE), 0);
        due("12: 0", x.once(0), NONE);
        due("12: 1", x.once(1), NONE_SUCH);
        due("12: -2", x.once(-2), NONE_SUCH);
        for (int far : FAR) {
            due("12: " + far, x.once(far), NONE_SUCH);
        }
        due("12: no THINGS", new PutOut().once(NONE), 0);
        due("12: no THING 0", new PutOut().once(0), NONE_SUCH);
    }

    // BAD DAYS of all seven DAYS
    private static void onceOfAllSevenDays() {
        for (int d = 0; d < 7; d++) {
            PutOut x = by("moves 10;ugly 0;minds 40;");
            x.thing(0, 0, 1);
            x.set(2, d, 2);
            due("12: DAY " + d + " alone", x.once(NONE), 10);
            due("12: it is PUT out", x.once(0), 0);
        }
        PutOut x = by("moves 10;ugly 5;minds 40;");
        x.thing(0, 0, 1);
        x.set(2, 6, 2);
        due("12: ugly on seven DAYS is more", x.once(NONE), 40);
        x.set(2, 0, 2);
        due("12: two DAYS", x.once(NONE), 10 + 7 * 5);
        PutOut y = things(0, 0, 0, 1);
        y.put(0, 0);
        due("12: on DAYS when nobody comes, too, it is ugly", y.once(NONE), 1);
        due("12: so it goes", y.once(0), NONE);
    }

    private static void onceTheFirstOfLikeOnes() {
        PutOut x = by("moves 20;ugly 0;minds 20;");
        x.thing(0, 0, 0);
        days(x, 0, 1);
        due("12: nowhere, like PLACE 0", x.once(NONE), 20);
        due("12: nowhere is ahead", x.once(0), NONE);
        days(x, 0, 1, 1);
        due("12: PLACE 0, like the others", x.once(0), 0);
        x.put(0, 4);
        due("12: it stays", x.once(NONE), 0);
        due("12: where it is", x.once(0), 4);
    }

    // GOES to it from now
    private static void onceIsFromNow() {
        PutOut x = by("moves 30;ugly 0;minds 9;");
        x.thing(0, 0, 0);
        days(x, 1, 1, 1);
        due("12: MISSED on three DAYS", x.once(NONE), 27);
        x.put(0, 1);
        due("12: it is out already", x.once(NONE), 0);
        due("12: and stays", x.once(0), 1);
        x.set(0, 1, 14);
        due("12: where it isn't seen it is MISSED", x.once(NONE), 27);
    }

    // 13: BAD.
    private static void weekIsBad() {
        PutOut x = things(0, 0, 0, 1);
        due("13: -1", x.week(-1), BAD);
        due("13: 3", x.week(3), BAD);
        for (int far : FAR) {
            due("13: " + far, x.week(far), BAD);
        }
    }

    private static void weekOfNothing() {
        PutOut x = new PutOut();
        days(x, 15, 15, 15, 15, 15, 15, 15);
        for (int what = 0; what < 3; what++) {
            due("13: no THINGS", x.week(what), 0);
        }
        PutOut y = things(0, 0, 0, 5);
        for (int what = 0; what < 3; what++) {
            due("13: nobody comes", y.week(what), 0);
        }
    }

    // from DAY 0 on
    private static void weekFromDay0On() {
        for (int d = 0; d < 7; d++) {
            PutOut x = things(0, 0, 0, 1);
            x.set(2, d, 1);
            due("13: DAY " + d + " alone", x.week(0), d < 6 ? 11 : 10);
            due("13: there, and away unless it's the last", x.week(1), d < 6 ? 2 : 1);
            due("13: on so many DAYS", x.week(2), d < 6 ? 2 : 1);
        }
        PutOut x = things(0, 0, 0, 1);
        days(x, 1, 1, 1, 1, 1, 1, 1);
        due("13: all DAYS", x.week(0), 1 + 7 * 9);
        due("13: one go", x.week(1), 1);
        due("13: on DAY 0", x.week(2), 1);
    }

    // from the ROOM of the DAY ahead
    private static void weekFromTheRoomOfTheDayAhead() {
        PutOut x = things(0, 9, 0, 1);
        x.thing(0, 9, 1);
        for (int p = 0; p < 6; p++) {
            x.set(0, p, p == 5 ? 3 : 0);
        }
        days(x, 1, 1, 2, 2, 1, 3, 0);
        // Each DAY who comes has hers on PLACE 5, what stood there goes; on DAY 5 one of both is MISSED.
        due("13: goes", x.week(1), 1 + 0 + 2 + 0 + 2 + 0 + 0);
        due("13: DAYS", x.week(2), 3);
        due("13: costs", x.week(0), 1 + 2 + 2 + 20);
        x.put(1, 5);
        due("13: from now", x.week(1), 2 + 0 + 2 + 0 + 2 + 0 + 0);
        due("13: as it is now", x.told(1, 4), 5);
    }

    // how many THINGS are PUT otherwise, all DAYS together (1), on how many DAYS any is (2)
    private static void weekCountsThingsAndDays() {
        PutOut x = things(0, 0, 0, 5);
        days(x, 1, 0, 1, 0, 1, 0, 1);
        due("13: five on each DAY", x.week(1), 35);
        due("13: all seven DAYS", x.week(2), 7);
        due("13: costs", x.week(0), 7 * 5 + 4 * 45);
        x.set(2, 6, 0);
        due("13: six DAYS", x.week(2), 6);
        due("13: thirty", x.week(1), 30);
    }

    // each DAY the ROOM that is BEST then
    private static void weekIsGreedy() {
        PutOut x = by("moves 10;ugly 0;minds 9;");
        x.thing(0, 0, 0);
        days(x, 1, 1, 1, 1, 1, 1, 1);
        due("13: it pays on no DAY alone", x.week(0), 63);
        due("13: nothing goes", x.week(1), 0);
        due("12: once for all it would", x.once(NONE), 10);
    }

    // 14: BAD.
    private static void dearestIsBad() {
        PutOut x = things(0, 0, 0, 1);
        due("14: -1", x.dearest(-1), BAD);
        due("14: 2", x.dearest(2), BAD);
        for (int far : FAR) {
            due("14: " + far, x.dearest(far), BAD);
        }
        due("14: no THINGS", new PutOut().dearest(0), 0);
        due("14: no WEEK", new PutOut().dearest(1), 0);
    }

    // of like ones the first
    private static void dearestOfLikeOnesTheFirst() {
        PutOut x = new PutOut();
        for (int g = 0; g < 4; g++) {
            x.thing(0, 9, g);
        }
        for (int g = 3; g >= 0; g--) {
            x.set(2, 6, x.count(21) | 1 << g);
            due("14: GUEST " + g + " is the first of like ones", x.dearest(0), g);
            due("14: WEEK without him", x.dearest(1), 3 - g);
        }
        days(x, 15, 15, 15, 15, 15, 15, 15);
        due("14: of four the first", x.dearest(0), 0);
        x.set(5, 3, 8);
        due("14: what GUEST 3 gave is ugly", x.dearest(0), 3);
        due("14: WEEK without him", x.dearest(1), 3);
    }

    // did he come on no DAY
    private static void dearestByAllDays() {
        PutOut x = things(0, 0, 2, 1);
        x.thing(0, 5, 3);
        days(x, 4, 0, 0, 8, 0, 0, 8);
        due("14: one dear DAY, two cheap ones", x.week(0), 11 + 6 + 5);
        due("14: both alike", x.dearest(0), 2);
        due("14: WEEK without GUEST 2", x.dearest(1), 6 + 5);
        x.set(2, 1, 8);
        due("14: three cheap ones", x.dearest(0), 3);
        due("14: WEEK without GUEST 3", x.dearest(1), 11);
        due("14: he comes still", x.count(16), 8);
    }

    // the GUEST by whom, did he come on no DAY, WEEK would be least: it may be more than it is
    private static void dearestThoughWeekIsLess() {
        PutOut x = by("moves 99;ugly 99;minds (guests<4)*50;");
        for (int g = 0; g < 4; g++) {
            x.thing(0, 0, g);
        }
        x.set(2, 3, 15);
        due("13: WEEK", x.week(0), 0);
        due("14: all four alike", x.dearest(0), 0);
        due("14: WEEK by three", x.dearest(1), 150);
        x.thing(0, 0, 3);
        due("14: GUEST 3 gave two", x.dearest(0), 3);
        due("14: WEEK by three, still", x.dearest(1), 150);
    }

    // 15: NONE.
    private static void giveNone() {
        due("15: no THINGS", new PutOut().give(), NONE);
        PutOut x = things(0, 0, 0, 5);
        due("15: nobody comes", x.give(), NONE);
        days(x, 1, 1, 1, 1, 1, 1, 1);
        due("15: MISSED is worse", x.give(), NONE);
    }

    // if less than WEEK
    private static void giveOnlyIfLess() {
        PutOut x = by("moves 0;ugly 19;minds 19;");
        x.thing(0, 0, 0);
        days(x, 1, 1, 1, 1, 1, 1, 1);
        due("13: WEEK", x.week(0), 7 * 19);
        due("15: as much as WEEK", x.give(), NONE);
        x.put(0, 0);
        due("15: as much as WEEK from there, too", x.give(), NONE);
        PutOut y = by("moves 1;ugly 19;minds 19;");
        y.thing(0, 0, 0);
        y.put(0, 0);
        days(y, 0, 1, 1, 1, 1, 1, 1);
        due("13: WEEK with one go", y.week(0), 1 + 6 * 19);
        due("15: by one less than WEEK", y.give(), 0);
    }

    private static void giveOfLikeOnesTheFirst() {
        PutOut x = things(5, 0, 0, 5);
        due("15: none is out", x.give(), NONE);
        for (int t = 4; t >= 0; t--) {
            x.put(t, t);
            due("15: THING " + t + " is the first that is out", x.give(), t);
        }
        x.set(5, 0, 9);
        due("15: THING 0 isn't ugly, nobody comes", x.give(), 1);
        due("15: none went truly", x.count(0), 5);
        due("15: all are out", x.count(1), 5);
    }

    // told as it is, by how many are there then
    private static void giveMindsByHowManyAreThere() {
        PutOut x = by("moves 10;ugly 25;minds guests*20;");
        x.thing(0, 0, 0);
        days(x, 3, 0, 3);
        due("13: WEEK, twice out and away", x.week(0), 2 * (10 + 25 + 10));
        due("15: 2 times 40 is less", x.give(), 0);
        days(x, 7, 0, 7);
        due("13: WEEK is the same by three", x.week(0), 90);
        due("15: 2 times 60 is more", x.give(), NONE);
        PutOut y = by("moves 10;ugly 30;minds 20+place*9+thing*5;");
        y.thing(5, 0, 3);
        y.thing(2, 0, 0);
        days(y, 1, 0, 1);
        due("13: WEEK of a CLOCK", y.week(0), 100);
        due("15: 2 times MISSED 2 times 25 is as much", y.give(), NONE);
    }

    // for each DAY on which its GIVER comes
    private static void giveForEachDayOfTheGiver() {
        for (int d = 0; d < 7; d++) {
            PutOut x = by("moves 0;ugly 15;minds 20;");
            x.thing(0, 0, 1);
            // Nobody SEES it: it is MISSED anyhow, so WEEK is as much as what its lack costs.
            for (int p = 0; p < 6; p++) {
                x.set(0, p, 0);
            }
            x.set(2, d, 2);
            due("13: WEEK", x.week(0), 20);
            due("15: DAY " + d + " alone", x.give(), NONE);
            x.set(2, d, 13);
            due("15: others come", x.give(), NONE);
        }
        PutOut x = things(5, 0, 1, 1);
        x.put(0, 1);
        days(x, 2, 2, 2, 2, 2, 2, 2);
        due("15: a BROKEN one is never MISSED", x.give(), 0);
    }

    // 16: BAD.
    private static void seatIsBad() {
        PutOut x = things(0, 0, 0, 1);
        due("16: guest -1", x.seat(-1, 0), BAD);
        due("16: guest 4", x.seat(4, 0), BAD);
        due("16: day -1", x.seat(0, -1), BAD);
        due("16: day 7", x.seat(0, 7), BAD);
        for (int far : FAR) {
            due("16: guest " + far, x.seat(far, 0), BAD);
            due("16: day " + far, x.seat(0, far), BAD);
        }
        due("16: the last", x.seat(3, 6), 0);
    }

    private static void seatOfLikeOnesTheFirst() {
        for (int g = 0; g < 4; g++) {
            PutOut x = things(0, 0, g, 1);
            x.put(0, 0);
            days(x, 15, 15, 15, 15, 15, 15, 15);
            due("16: all alike", x.seat(g, 0), 0);
            x.set(0, 0, 12);
            due("16: SEATS 2 and 3 SEE it", x.seat(g, 6), 2);
            x.set(0, 0, 8);
            due("16: SEAT 3 SEES it", x.seat(g, 3), 3);
            x.set(0, 0, 0);
            due("16: none SEES it", x.seat(g, 3), 0);
            due("16: nobody sits elsewhere", x.count(11 + g), g);
        }
        PutOut y = things(5, 0, 0, 1);
        y.put(0, 0);
        days(y, 15);
        y.set(0, 0, 1);
        due("16: the first that doesn't SEE it", y.seat(2, 0), 1);
        due("16: one who is offended moves, not the GIVER", y.seat(0, 0), 0);
    }

    private static void seatOfWhoDoesNotCome() {
        PutOut x = things(0, 0, 3, 1);
        x.put(0, 0);
        x.set(0, 0, 4);
        days(x, 8, 7);
        due("16: he comes", x.seat(3, 0), 2);
        due("16: others come", x.seat(3, 1), 0);
        due("16: nobody comes", x.seat(3, 2), 0);
    }

    private static void seatByTheRoomOfNow() {
        PutOut x = things(0, 0, 3, 1);
        x.thing(2, 0, 3);
        x.set(0, 0, 2);
        x.set(0, 1, 4);
        days(x, 8);
        due("16: nothing is PUT out", x.seat(3, 0), 0);
        x.put(0, 0);
        due("16: the THING", x.seat(3, 0), 1);
        x.put(1, 1);
        due("16: the CLOCK is MISSED more", x.seat(3, 0), 2);
        x.put(1, NONE);
        due("16: the THING again", x.seat(3, 0), 1);
    }

    // the SEAT (0 .. 3)
    private static void seatThoughNoneIsGood() {
        for (int g = 1; g < 4; g++) {
            PutOut x = things(5, 0, 0, 1);
            x.put(0, 0);
            days(x, 15);
            due("16: he SEES it from each SEAT", x.seat(g, 0), 0);
            x.set(0, 0, 14);
            due("16: he doesn't from SEAT 0", x.seat(g, 0), 0);
            x.set(0, 0, 7);
            due("16: he doesn't from SEAT 3", x.seat(g, 0), 3);
        }
    }
}
