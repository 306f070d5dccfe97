/** The edges of promises 1 to 5 and of what the Terms say of PLACES, GUESTS, DAYS, THINGS: a test for each sentence. */
final class EdgesPlacesTest extends Scene {
    private static final String[] KINDS = {"THING", "PICTURE", "CLOCK", "PORTRAIT", "VASE", "BROKEN"};

    public static void main(String[] args) {
        constants();
        newObjectHasNothing();
        placesAre0To5();
        sightIs15AtFirst();
        sightIsOfSeats();
        guestsSitInTheirSeatAtFirst();
        twoMayShareASeat();
        daysAre0To6();
        nobodyComesAtFirst();
        fiveThingsAtMost();
        thingsAreNumberedFrom0();
        kindsAre0To5();
        numberAndLookAre0To9();
        giverIsAGuest();
        thingsComeNowhere();
        whereKindsStand();
        standsByPut();
        howManyTimesMissed();
        missedIfTheGiverIsThere();
        missedNowhereOrUnseen();
        howManyTimesOffends();
        theGiverIsNotOffended();
        offendedIfThereAndSeeing();
        setAnswersWhatItWas();
        setIsBad();
        setOfThingsThatWentIsBad();
        thingIsFullBehindBad();
        thingHasRoomAgain();
        putNowhere();
        putWhereItIs();
        putIsBadAheadOfState();
        putTellsMoves();
        putWhereAnotherOneIs();
        toldIsNoneSuch();
        toldWhoSees();
        CHECKS.end();
    }

    private static PutOut with(int kind, int what, int giver) {
        PutOut x = new PutOut();
        due("a THING", x.thing(kind, what, giver), 0);
        return x;
    }

    // NONE is -1; NO, where a long is answered, -4611686018427387904.
    private static void constants() {
        due("NONE", PutOut.NONE, -1);
        due("BAD", PutOut.BAD, -2);
        due("STATE", PutOut.STATE, -3);
        due("FULL", PutOut.FULL, -4);
        due("NO", PutOut.NO, Long.MIN_VALUE / 2);
    }

    // 1: No THINGS, nobody comes.
    private static void newObjectHasNothing() {
        PutOut x = new PutOut();
        due("1: no THINGS", x.count(0), 0);
        due("1: none PUT", x.count(1), 0);
        due("1: TEXT 0 alone", x.count(2), 1);
        due("1: THE TAPE is empty", x.count(3), 0);
        due("1: THE RULE", x.count(4), 0);
        due("1: told", x.told(0, 0), NONE_SUCH);
        due("1: put", x.put(0, NONE), BAD);
        due("1: set", x.set(3, 0, 0), BAD);
        due("1: taken", x.taken(0, 0), MISSING);
        due("1: day", x.day(15, 0), 0);
        due("1: week", x.week(0), 0);
        due("1: no IMAGE", x.back(), STATE);
        due("1: the first THING", x.thing(0, 0, 0), 0);
        PutOut y = new PutOut();
        due("1: of another object", y.count(0), 0);
    }

    // PLACES 0 .. 5
    private static void placesAre0To5() {
        PutOut x = with(0, 0, 0);
        for (int p = 0; p < 6; p++) {
            due("2: PLACE " + p, x.set(0, p, 14), 15);
            due("4: PLACE " + p, x.put(0, p), 1);
            due("5: PLACE " + p, x.told(0, 4), p);
            due("5: STANDS on PLACE " + p, x.told(0, 6 + p), 1);
        }
        due("2: PLACE -1", x.set(0, -1, 0), BAD);
        due("2: PLACE 6", x.set(0, 6, 0), BAD);
        due("4: PLACE -2", x.put(0, -2), BAD);
        due("4: PLACE 6", x.put(0, 6), BAD);
        for (int far : FAR) {
            due("2: PLACE " + far, x.set(0, far, 0), BAD);
            due("4: PLACE " + far, x.put(0, far), BAD);
        }
        due("4: it stays", x.told(0, 4), 5);
    }

    // SIGHT: SEATS (bits 0 .. 3) from which it is seen (15 at first)
    private static void sightIs15AtFirst() {
        PutOut x = new PutOut();
        for (int p = 0; p < 6; p++) {
            due("23: SIGHT of PLACE " + p, x.count(5 + p), 15);
            due("2: none SEES it", x.set(0, p, 0), 15);
            due("2: SIGHT 16", x.set(0, p, 16), BAD);
            due("2: SIGHT -1", x.set(0, p, -1), BAD);
            due("2: all SEE it", x.set(0, p, 15), 0);
            due("23: SIGHT 15", x.count(5 + p), 15);
        }
    }

    private static void sightIsOfSeats() {
        for (int p = 0; p < 6; p++) {
            PutOut x = with(0, 0, 0);
            x.put(0, p);
            for (int sight = 0; sight < 16; sight++) {
                x.set(0, p, sight);
                due("5: SIGHT " + sight + " of PLACE " + p, x.told(0, 5), sight);
            }
        }
    }

    // GUESTS 0 .. 3 sit in a SEAT (0 .. 3; GUEST g in SEAT g at first; ..)
    private static void guestsSitInTheirSeatAtFirst() {
        PutOut x = new PutOut();
        for (int g = 0; g < 4; g++) {
            due("23: SEAT of GUEST " + g, x.count(11 + g), g);
            due("2: SEAT -1", x.set(1, g, -1), BAD);
            due("2: SEAT 4", x.set(1, g, 4), BAD);
            due("2: SEAT 3", x.set(1, g, 3), g);
            due("2: SEAT 0", x.set(1, g, 0), 3);
        }
        due("2: GUEST -1", x.set(1, -1, 0), BAD);
        due("2: GUEST 4", x.set(1, 4, 0), BAD);
    }

    // two may share one
    private static void twoMayShareASeat() {
        PutOut x = with(0, 0, 0);
        x.put(0, 5);
        x.set(0, 5, 8);
        due("5: GUEST 3 alone", x.told(0, 5), 8);
        due("2: GUEST 1 there too", x.set(1, 1, 3), 1);
        due("23: SEAT of GUEST 1", x.count(12), 3);
        due("23: SEAT of GUEST 3", x.count(14), 3);
        due("5: both", x.told(0, 5), 10);
        x.set(1, 0, 3);
        x.set(1, 2, 3);
        due("5: all four", x.told(0, 5), 15);
    }

    // DAYS 0 .. 6: who comes (bits of GUESTS; ..)
    private static void daysAre0To6() {
        PutOut x = new PutOut();
        for (int d = 0; d < 7; d++) {
            due("2: all come", x.set(2, d, 15), 0);
            due("2: GUESTS 16", x.set(2, d, 16), BAD);
            due("2: GUESTS -1", x.set(2, d, -1), BAD);
            due("23: DAY " + d, x.count(15 + d), 15);
        }
        due("2: DAY -1", x.set(2, -1, 0), BAD);
        due("2: DAY 7", x.set(2, 7, 0), BAD);
        due("23: behind DAY 6", x.count(22), BAD);
    }

    // none at first
    private static void nobodyComesAtFirst() {
        PutOut x = new PutOut();
        for (int d = 0; d < 7; d++) {
            due("23: DAY " + d, x.count(15 + d), 0);
        }
    }

    // THINGS (5 at most, ..)
    private static void fiveThingsAtMost() {
        PutOut x = new PutOut();
        for (int t = 0; t < 5; t++) {
            due("3: THING " + t, x.thing(0, 0, 0), t);
            due("23: how many", x.count(0), t + 1);
        }
        due("3: the sixth", x.thing(0, 0, 0), FULL);
        due("23: still five", x.count(0), 5);
        due("5: no THING 5", x.told(5, 0), NONE_SUCH);
    }

    // .. numbered from 0
    private static void thingsAreNumberedFrom0() {
        PutOut x = new PutOut();
        for (int t = 0; t < 5; t++) {
            due("5: not yet", x.told(t, 1), NONE_SUCH);
            due("3: its number", x.thing(t, 10 * t + 9 - t, 3 - t % 4), t);
            due("5: it is there", x.told(t, 1), t);
        }
        for (int t = 0; t < 5; t++) {
            due("5: KIND", x.told(t, 0), t);
            due("5: GIVER", x.told(t, 2), 3 - t % 4);
            due("5: LOOK", x.told(t, 3), 9 - t);
        }
    }

    private static void kindsAre0To5() {
        for (int kind = 0; kind < 6; kind++) {
            due("5: KIND", with(kind, 0, 0).told(0, 0), kind);
        }
        PutOut x = new PutOut();
        due("3: KIND -1", x.thing(-1, 0, 0), BAD);
        due("3: KIND 6", x.thing(6, 0, 0), BAD);
        for (int far : FAR) {
            due("3: KIND " + far, x.thing(far, 0, 0), BAD);
        }
        due("23: none came", x.count(0), 0);
    }

    // a NUMBER (0 .. 9), .. a LOOK (0 .. 9); 3: what: 10 times NUMBER, and LOOK
    private static void numberAndLookAre0To9() {
        for (int what = 0; what < 100; what++) {
            PutOut x = with(0, what, 0);
            due("5: NUMBER of " + what, x.told(0, 1), what / 10);
            due("5: LOOK of " + what, x.told(0, 3), what % 10);
        }
        PutOut x = new PutOut();
        due("3: what -1", x.thing(0, -1, 0), BAD);
        due("3: what 100", x.thing(0, 100, 0), BAD);
        for (int far : FAR) {
            due("3: what " + far, x.thing(0, far, 0), BAD);
        }
        due("23: none came", x.count(0), 0);
    }

    private static void giverIsAGuest() {
        for (int g = 0; g < 4; g++) {
            due("5: GIVER", with(0, 0, g).told(0, 2), g);
        }
        PutOut x = new PutOut();
        due("3: GIVER -1", x.thing(0, 0, -1), BAD);
        due("3: GIVER 4", x.thing(0, 0, 4), BAD);
        for (int far : FAR) {
            due("3: GIVER " + far, x.thing(0, 0, far), BAD);
        }
        due("23: none came", x.count(0), 0);
    }

    // or nowhere (NONE, as they come)
    private static void thingsComeNowhere() {
        PutOut x = new PutOut();
        for (int t = 0; t < 5; t++) {
            x.thing(t, 0, 0);
            due("5: nowhere", x.told(t, 4), NONE);
            due("5: nobody SEES it", x.told(t, 5), 0);
        }
        due("23: none PUT", x.count(1), 0);
    }

    // THING: yes; PICTURE: if p is even; CLOCK: if p is below 4; PORTRAIT: as a PICTURE, but not on PLACE 0; ..
    private static void whereKindsStand() {
        String[] where = {"111111", "101010", "111100", "001010", "111100", "111111"};
        for (int kind = 0; kind < 6; kind++) {
            PutOut x = with(kind, 99, 3);
            for (int p = 0; p < 6; p++) {
                due("5: " + KINDS[kind] + " on PLACE " + p, x.told(0, 6 + p), where[kind].charAt(p) - '0');
            }
        }
    }

    // 4: STATE: it doesn't STAND there
    private static void standsByPut() {
        String[] where = {"111111", "101010", "111100", "001010", "111100", "111111"};
        for (int kind = 0; kind < 6; kind++) {
            for (int p = 0; p < 6; p++) {
                PutOut x = with(kind, 0, 0);
                boolean stands = where[kind].charAt(p) == '1';
                due("4: " + KINDS[kind] + " on PLACE " + p, x.put(0, p), stands ? 1 : STATE);
                due("4: where it is then", x.told(0, 4), stands ? p : NONE);
            }
        }
    }

    // MISSED: THING: 1; PICTURE: as a THING; CLOCK: 1 more; PORTRAIT: twice; VASE: .. and NUMBER by 4 (cut); BROKEN: 0
    private static void howManyTimesMissed() {
        int[] times = {1, 1, 2, 2, 2, 0};
        int[] quarters = {0, 0, 0, 0, 1, 1, 1, 1, 2, 2};
        for (int kind = 0; kind < 6; kind++) {
            for (int number = 0; number < 10; number++) {
                for (int giver = 0; giver < 4; giver++) {
                    PutOut x = with(kind, 10 * number, giver);
                    int want = times[kind] + (kind == 4 ? quarters[number] : 0);
                    due("9: MISSED of a " + KINDS[kind] + ", NUMBER " + number, x.day(1 << giver, 0), 20 * want);
                    due("9: it is MISSED", x.day(1 << giver, 1), want > 0 ? 1 : 0);
                }
            }
        }
    }

    // if its GIVER is there
    private static void missedIfTheGiverIsThere() {
        for (int giver = 0; giver < 4; giver++) {
            PutOut x = with(2, 0, giver);
            for (int guests = 0; guests < 16; guests++) {
                boolean there = (guests >> giver & 1) == 1;
                due("9: MISSED by " + giver + " of " + guests, x.day(guests, 0), there ? 40 : 0);
                due("9: MISSED by " + giver + " of " + guests, x.day(guests, 1), there ? 1 : 0);
            }
        }
    }

    // being PUT nowhere or where it isn't seen
    private static void missedNowhereOrUnseen() {
        PutOut x = with(0, 9, 2);
        due("9: nowhere", x.day(4, 1), 1);
        x.put(0, 1);
        due("9: he SEES it", x.day(4, 1), 0);
        x.set(0, 1, 11);
        due("9: he doesn't SEE it", x.day(4, 1), 1);
        x.set(1, 2, 3);
        due("9: he SEES it from SEAT 3", x.day(4, 1), 0);
        x.set(0, 1, 0);
        due("9: nobody SEES it", x.day(4, 1), 1);
        due("9: others don't miss it", x.day(11, 1), 0);
    }

    private static int offends(int kind, int number, int giver, int guest) {
        switch (kind) {
            case 2:
                return guest == number % 4 ? 1 : 0;
            case 3:
                return guest < giver ? 1 : 0;
            case 4:
                return guest == number % 4 ? 2 : 0;
            case 5:
                return 1;
            default:
                return 0;
        }
    }

    // OFFENDS: THING: 0; .. CLOCK: 1, if x is NUMBER modulo 4, ..; PORTRAIT: 1, if x is below its GIVER, ..
    private static void howManyTimesOffends() {
        for (int kind = 0; kind < 6; kind++) {
            for (int number = 0; number < 10; number++) {
                for (int giver = 0; giver < 4; giver++) {
                    PutOut x = with(kind, 10 * number + 9, giver);
                    x.put(0, 2);
                    for (int guest = 0; guest < 4; guest++) {
                        int want = guest == giver ? 0 : offends(kind, number, giver, guest);
                        String what = KINDS[kind] + " " + number + " given by " + giver + " OFFENDS " + guest;
                        due("9: " + what, x.day(1 << guest, 0), 20 * want);
                        due("9: " + what, x.day(1 << guest, 2), want > 0 ? 1 : 0);
                    }
                }
            }
        }
    }

    // if a GUEST x who isn't its GIVER sees it
    private static void theGiverIsNotOffended() {
        for (int giver = 0; giver < 4; giver++) {
            int[] kinds = {2, 4, 5};
            for (int kind : kinds) {
                PutOut x = with(kind, 10 * giver + 9, giver);
                x.put(0, 1);
                due("9: " + KINDS[kind] + " and its GIVER " + giver, x.day(1 << giver, 2), 0);
                x.set(4, 0, (giver + 1) % 4);
                due("9: another one gave it", x.day(1 << giver, 2), 1);
            }
        }
    }

    private static void offendedIfThereAndSeeing() {
        PutOut x = with(5, 9, 0);
        due("9: nowhere", x.day(15, 2), 0);
        x.put(0, 5);
        due("9: three are offended", x.day(15, 0), 60);
        due("9: two are there", x.day(6, 0), 40);
        due("9: nobody is there", x.day(0, 2), 0);
        x.set(0, 5, 2);
        due("9: GUEST 1 alone SEES it", x.day(15, 0), 20);
        x.set(0, 5, 1);
        due("9: the GIVER alone SEES it", x.day(15, 2), 0);
        x.set(1, 3, 0);
        due("9: GUEST 3 sits there too", x.day(15, 0), 20);
    }

    // 2: .. becomes v: what it was.
    private static void setAnswersWhatItWas() {
        PutOut x = new PutOut();
        for (int t = 0; t < 5; t++) {
            x.thing(0, 0, 0);
        }
        int[] sizes = {6, 4, 7, 5, 5, 5};
        int[] tops = {15, 3, 15, 9, 3, 9};
        for (int what = 0; what < 6; what++) {
            int last = sizes[what] - 1;
            x.set(what, last, 0);
            due("2: the largest, what " + what, x.set(what, last, tops[what]), 0);
            due("2: the same again, what " + what, x.set(what, last, tops[what]), tops[what]);
            due("2: above, what " + what, x.set(what, last, tops[what] + 1), BAD);
            due("2: below, what " + what, x.set(what, last, -1), BAD);
            due("2: the least, what " + what, x.set(what, last, 0), tops[what]);
            due("2: another one's, what " + what, x.set(what, 0, 1), what == 0 ? 15 : 0);
        }
        int[] told = {3, 1, 4, 2, 5, 3};
        for (int i = 0; i < told.length; i += 2) {
            due("5: of THING 0 alone", x.told(0, told[i + 1]), 1);
            due("5: not of THING 4", x.told(4, told[i + 1]), 0);
        }
    }

    // 2: BAD.
    private static void setIsBad() {
        PutOut x = with(0, 0, 0);
        int[] sizes = {6, 4, 7, 1, 1, 1};
        String before = state(x);
        for (int what = 0; what < 6; what++) {
            due("2: of -1", x.set(what, -1, 0), BAD);
            due("2: of too many", x.set(what, sizes[what], 0), BAD);
            for (int far : FAR) {
                due("2: of " + far, x.set(what, far, 0), BAD);
                due("2: v " + far, x.set(what, 0, far), BAD);
            }
        }
        due("2: what -1", x.set(-1, 0, 0), BAD);
        due("2: what 6", x.set(6, 0, 0), BAD);
        for (int far : FAR) {
            due("2: what " + far, x.set(far, 0, 0), BAD);
        }
        due("2: nothing changed", state(x).equals(before) ? 1 : 0, 1);
    }

    private static void setOfThingsThatWentIsBad() {
        PutOut x = with(0, 0, 0);
        x.image();
        x.thing(0, 0, 0);
        due("2: THING 1", x.set(3, 1, 5), 0);
        x.back();
        for (int what = 3; what < 6; what++) {
            due("2: THING 1 went", x.set(what, 1, 0), BAD);
        }
        due("4: THING 1 went", x.put(1, 0), BAD);
        due("5: THING 1 went", x.told(1, 1), NONE_SUCH);
        due("28: THING 1 went", x.taken(1, 0), MISSING);
    }

    // 3: BAD; FULL.
    private static void thingIsFullBehindBad() {
        PutOut x = new PutOut();
        for (int t = 0; t < 5; t++) {
            x.thing(5, 99, 3);
        }
        due("3: FULL", x.thing(5, 99, 3), FULL);
        due("3: KIND, though FULL", x.thing(6, 99, 3), BAD);
        due("3: what, though FULL", x.thing(5, 100, 3), BAD);
        due("3: GIVER, though FULL", x.thing(5, 99, 4), BAD);
    }

    private static void thingHasRoomAgain() {
        PutOut x = new PutOut();
        x.image();
        for (int i = 0; i < 3; i++) {
            for (int t = 0; t < 5; t++) {
                due("3: THING " + t, x.thing(i, 10 * i, 0), t);
            }
            due("3: FULL", x.thing(0, 0, 0), FULL);
            due("3: NUMBER", x.told(4, 1), i);
            due("22: all went", x.back(), 0);
        }
    }

    // 4: or nowhere (NONE)
    private static void putNowhere() {
        PutOut x = by("moves place ; ugly 0 ; minds 0 ;");
        for (int kind = 0; kind < 5; kind++) {
            x.thing(kind, 0, 0);
        }
        x.put(0, 1);
        x.put(1, 2);
        x.put(2, 3);
        x.put(3, 4);
        x.put(4, 0);
        for (int t = 0; t < 5; t++) {
            due("4: nowhere, where moves tells 6", x.put(t, NONE), 6);
            due("4: it is nowhere", x.told(t, 4), NONE);
        }
        due("23: all of them", x.count(1), 0);
    }

    // 4: 0, if it is there
    private static void putWhereItIs() {
        PutOut x = by("moves 7 ; ugly 0 ; minds 0 ;");
        x.thing(3, 0, 0);
        due("4: nowhere as it came", x.put(0, NONE), 0);
        due("4: PLACE 4", x.put(0, 4), 7);
        due("4: PLACE 4 again", x.put(0, 4), 0);
        due("4: nowhere", x.put(0, NONE), 7);
        due("4: nowhere again", x.put(0, NONE), 0);
    }

    // 4: BAD; STATE
    private static void putIsBadAheadOfState() {
        PutOut x = with(3, 0, 0);
        x.put(0, 2);
        due("4: no THING, where one is", x.put(1, 2), BAD);
        due("4: THING -1", x.put(-1, 2), BAD);
        due("4: no THING, nowhere", x.put(1, NONE), BAD);
        due("4: no PLACE", x.put(0, 6), BAD);
        for (int far : FAR) {
            due("4: THING " + far, x.put(far, 0), BAD);
        }
        due("4: it stays", x.told(0, 4), 2);
        due("4: where it can't STAND", x.put(0, 0), STATE);
        due("4: it stays", x.told(0, 4), 2);
    }

    private static void putTellsMoves() {
        PutOut x = by("moves 0-1 ; ugly 50 ; minds 50 ;");
        x.thing(0, 0, 0);
        due("4: below the bound", x.put(0, 0), 0);
        due("4: it is there", x.told(0, 4), 0);
        PutOut y = by("moves 9999 ; ugly 50 ; minds 50 ;");
        y.thing(0, 0, 0);
        due("4: above the bound", y.put(0, 0), 99);
        PutOut z = by("moves thing*40+giver*10+look+number+guests*50 ; ugly 0 ; minds 0 ;");
        z.thing(0, 0, 0);
        z.thing(0, 31, 3);
        due("4: as moves tells of THING 0", z.put(0, 5), 0);
        due("4: as moves tells of THING 1", z.put(1, 4), 40 + 30 + 1 + 3);
    }

    // 4: STATE: another one is there; no two on one PLACE
    private static void putWhereAnotherOneIs() {
        PutOut x = new PutOut();
        for (int t = 0; t < 5; t++) {
            x.thing(0, 0, 0);
            due("4: PLACE " + t, x.put(t, t), 1);
        }
        for (int t = 0; t < 5; t++) {
            for (int p = 0; p < 5; p++) {
                due("4: THING " + t + " on PLACE " + p, x.put(t, p), t == p ? 0 : STATE);
            }
            due("4: it stays", x.told(t, 4), t);
        }
        due("4: PLACE 5 is free", x.put(0, 5), 1);
        due("4: PLACE 0 is free then", x.put(4, 0), 1);
        due("4: PLACE 5 is not", x.put(4, 5), STATE);
        x.put(0, NONE);
        due("4: nowhere is no PLACE: PLACE 5", x.put(4, 5), 1);
        due("4: two nowhere", x.put(3, NONE), 1);
    }

    // 5: -100: none such.
    private static void toldIsNoneSuch() {
        PutOut x = with(1, 0, 0);
        due("5: what 0", x.told(0, 0), 1);
        due("5: what 11", x.told(0, 11), 0);
        due("5: what -1", x.told(0, -1), NONE_SUCH);
        due("5: what 12", x.told(0, 12), NONE_SUCH);
        due("5: THING -1", x.told(-1, 0), NONE_SUCH);
        due("5: THING 1", x.told(1, 0), NONE_SUCH);
        for (int far : FAR) {
            due("5: what " + far, x.told(0, far), NONE_SUCH);
            due("5: THING " + far, x.told(far, 0), NONE_SUCH);
        }
    }

    // 5: who of all SEES it (bits), whether they come or not
    private static void toldWhoSees() {
        PutOut x = with(0, 0, 0);
        due("5: nowhere", x.told(0, 5), 0);
        x.put(0, 0);
        due("5: all", x.told(0, 5), 15);
        x.set(0, 0, 9);
        due("5: SEATS 0 and 3", x.told(0, 5), 9);
        x.set(1, 1, 0);
        x.set(1, 3, 2);
        due("5: GUESTS 0 and 1 in SEAT 0", x.told(0, 5), 3);
        x.set(0, 0, 0);
        due("5: nobody", x.told(0, 5), 0);
        x.put(0, NONE);
        x.set(0, 0, 15);
        due("5: nowhere again", x.told(0, 5), 0);
    }
}
