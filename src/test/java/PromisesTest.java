/** The promises one by one: ordinary inputs, the edges that the document names, and wrong inputs. */
final class PromisesTest extends Scene {
    public static void main(String[] args) {
        newObject();
        set();
        thing();
        put();
        told();
        feed();
        textFaults();
        textRoom();
        textValues();
        force();
        day();
        dayByMinds();
        best();
        bestWithFewGoes();
        bestByOneGo();
        bestByPlaces();
        tidy();
        once();
        week();
        dearest();
        give();
        seat();
        seenExpected();
        seenSurprised();
        seenRefused();
        film();
        drawn();
        chance();
        image();
        back();
        count();
        sheet();
        cell();
        copy();
        things();
        taken();
        CHECKS.end();
    }

    private static void newObject() {
        PutOut x = new PutOut();
        int[] want = {0, 0, 1, 0, 0, 15, 15, 15, 15, 15, 15, 0, 1, 2, 3, 0, 0, 0, 0, 0, 0, 0};
        for (int what = 0; what < want.length; what++) {
            due("1: count " + what, x.count(what), want[what]);
        }
        for (int sheet = 0; sheet < 4; sheet++) {
            due("1: no SHEET " + sheet, x.cell(sheet, 0, 0), -11);
        }
        due("1: no IMAGE", x.back(), STATE);
        due("1: NONE", NONE, -1);
        due("1: BAD", BAD, -2);
        due("1: STATE", STATE, -3);
        due("1: FULL", FULL, -4);
        due("1: NO", PutOut.NO, -(1L << 62));
    }

    private static void set() {
        PutOut x = new PutOut();
        x.thing(4, 37, 2);
        int[] sizes = {6, 4, 7, 1, 1, 1};
        int[] bounds = {16, 4, 16, 10, 4, 10};
        int[][] firsts = {{15, 15, 15, 15, 15, 15}, {0, 1, 2, 3}, {0, 0, 0, 0, 0, 0, 0}, {3}, {2}, {7}};
        for (int what = 0; what < 6; what++) {
            for (int of = 0; of < sizes[what]; of++) {
                String call = "2: set " + what + " " + of;
                due(call, x.set(what, of, bounds[what] - 1), firsts[what][of]);
                due(call + " below", x.set(what, of, -1), BAD);
                due(call + " above", x.set(what, of, bounds[what]), BAD);
                due(call + " again", x.set(what, of, 0), bounds[what] - 1);
                due(call + " to itself", x.set(what, of, 0), 0);
            }
            due("2: of -1", x.set(what, -1, 0), BAD);
            due("2: of too many", x.set(what, sizes[what], 0), BAD);
        }
        due("2: what -1", x.set(-1, 0, 0), BAD);
        due("2: what 6", x.set(6, 0, 0), BAD);
        due("2: NUMBER", x.told(0, 1), 0);
        due("2: GIVER", x.told(0, 2), 0);
        due("2: LOOK", x.told(0, 3), 0);
        due("2: KIND stays", x.told(0, 0), 4);
    }

    private static void thing() {
        PutOut x = new PutOut();
        for (int kind = 0; kind < 5; kind++) {
            due("3: thing", x.thing(kind, kind * 20 + 9, kind % 4), kind);
        }
        for (int t = 0; t < 5; t++) {
            due("3: KIND", x.told(t, 0), t);
            due("3: NUMBER", x.told(t, 1), t * 2);
            due("3: LOOK", x.told(t, 3), 9);
            due("3: GIVER", x.told(t, 2), t % 4);
            due("3: comes nowhere", x.told(t, 4), NONE);
        }
        due("3: full", x.thing(5, 99, 3), FULL);
        due("3: BAD ahead of FULL", x.thing(6, 0, 0), BAD);
        due("3: how many", x.count(0), 5);
        PutOut y = new PutOut();
        int[][] wrong = {{-1, 0, 0}, {6, 0, 0}, {0, -1, 0}, {0, 100, 0}, {0, 0, -1}, {0, 0, 4}};
        for (int[] w : wrong) {
            due("3: wrong", y.thing(w[0], w[1], w[2]), BAD);
        }
        due("3: none came", y.count(0), 0);
        due("3: last of each", y.thing(5, 99, 3), 0);
    }

    private static void put() {
        PutOut x = by("moves place*10+thing ; ugly 0 ; minds 0 ;");
        x.thing(0, 0, 0);
        x.thing(1, 0, 0);
        x.thing(3, 0, 0);
        x.thing(4, 0, 0);
        due("4: put", x.put(0, 3), 30);
        due("4: put there", x.put(0, 3), 0);
        due("4: another one is there", x.put(3, 3), STATE);
        due("4: PICTURE on 1", x.put(1, 1), STATE);
        due("4: PICTURE on 4", x.put(1, 4), 41);
        due("4: PORTRAIT on 0", x.put(2, 0), STATE);
        due("4: PORTRAIT on 3", x.put(2, 3), STATE);
        due("4: PORTRAIT on 2", x.put(2, 2), 22);
        due("4: VASE on 4", x.put(3, 4), STATE);
        due("4: VASE on 0", x.put(3, 0), 3);
        due("4: where it was", x.told(3, 4), 0);
        due("4: nowhere", x.put(0, NONE), 60);
        due("4: nowhere again", x.put(0, NONE), 0);
        due("4: two nowhere", x.put(1, NONE), 61);
        due("4: it is free now", x.put(0, 4), 40);
        due("4: no such THING", x.put(4, 0), BAD);
        due("4: no THING -1", x.put(-1, 0), BAD);
        due("4: no PLACE 6", x.put(0, 6), BAD);
        due("4: no PLACE -2", x.put(0, -2), BAD);
        due("4: it stays", x.told(0, 4), 4);
        PutOut below = by("moves 0-1;ugly 0;minds 0;");
        below.thing(0, 0, 0);
        due("4: below the bound", below.put(0, 0), 0);
        PutOut above = by("moves 100;ugly 0;minds 0;");
        above.thing(0, 0, 0);
        due("4: above the bound", above.put(0, 0), 99);
        PutOut guests = by("moves guests+5;ugly 0;minds 0;");
        guests.thing(0, 0, 0);
        due("4: guests is 0", guests.put(0, 0), 5);
    }

    private static void told() {
        PutOut x = new PutOut();
        int[] stands = {63, 21, 15, 20, 15, 63};
        for (int kind = 0; kind < 6; kind++) {
            x = new PutOut();
            x.thing(kind, 46, 3);
            for (int p = 0; p < 6; p++) {
                due("5: KIND " + kind + " on " + p, x.told(0, 6 + p), stands[kind] >> p & 1);
            }
        }
        due("5: KIND", x.told(0, 0), 5);
        due("5: NUMBER", x.told(0, 1), 4);
        due("5: GIVER", x.told(0, 2), 3);
        due("5: LOOK", x.told(0, 3), 6);
        due("5: PLACE", x.told(0, 4), NONE);
        due("5: nobody SEES it", x.told(0, 5), 0);
        x.put(0, 5);
        due("5: all SEE it", x.told(0, 5), 15);
        x.set(0, 5, 4);
        due("5: who sits in SEAT 2", x.told(0, 5), 4);
        x.set(1, 0, 2);
        due("5: two share it", x.told(0, 5), 5);
        x.set(1, 2, 1);
        due("5: he sits elsewhere", x.told(0, 5), 1);
        due("5: PLACE 5", x.told(0, 4), 5);
        due("5: what -1", x.told(0, -1), -100);
        due("5: what 12", x.told(0, 12), -100);
        due("5: THING 1", x.told(1, 0), -100);
        due("5: THING -1", x.told(-1, 0), -100);
    }

    private static void feed() {
        PutOut x = new PutOut();
        due("6: below", x.feed(-1), BAD);
        due("6: above", x.feed(256), BAD);
        for (int i = 1; i <= 160; i++) {
            due("6: feed", x.feed(i % 2 * 255), i);
        }
        due("6: full", x.feed(0), FULL);
        due("6: BAD ahead of FULL", x.feed(256), BAD);
        due("6: how many", x.count(3), 160);
    }

    private static void fault(String s, int place) {
        PutOut x = new PutOut();
        due("7: '" + s + "'", text(x, s), -100 - place);
        due("7: TAPE is empty behind '" + s + "'", x.count(3), 0);
        due("7: no TEXT came by '" + s + "'", x.count(2), 1);
    }

    private static void stands(String s) {
        PutOut x = new PutOut();
        due("7: '" + s + "'", text(x, s), 1);
        due("7: TAPE is empty behind '" + s + "'", x.count(3), 0);
        due("7: a TEXT came by '" + s + "'", x.count(2), 2);
    }

    private static void textFaults() {
        fault("", 0);
        fault("  ", 2);
        fault("moves", 5);
        fault("moves \n", 7);
        fault("moves 1;ugly 1;minds 1", 22);
        fault("moves 1;ugly 1;minds 1;x", 23);
        fault("moves 1;ugly 1;minds 1; ;", 24);
        fault("move 1;", 0);
        fault("ugly 1;", 0);
        fault("moves 1;minds 1;", 8);
        fault("moves ugly;", 6);
        fault("moves looks;", 6);
        fault("moves Look;", 6);
        fault("moves\t1;", 5);
        fault("moves 1 / 2;", 8);
        fault("moves " + (char) 233, 6);
        fault("moves zoves;", 6);
        fault("zoves 1;", 0);
        fault("moves lookz;", 6);
        fault("moves 12345;", 6);
        fault("moves 00001;", 6);
        fault("moves 1 2;", 8);
        fault("moves ;", 6);
        fault("moves 1);", 7);
        fault("moves (1;", 8);
        fault("moves ();", 7);
        fault("moves 1+;", 8);
        fault("moves *1;", 6);
        fault("moves +1;", 6);
        fault("moves 1<2<3;", 9);
        fault("moves 1=2<3;", 9);
        fault("moves 1+not 2;", 8);
        fault("moves 1<not 2;", 8);
        fault("moves -not 1;", 7);
        fault("moves 1 or;", 10);
        fault("moves 1 not 2;", 8);
        fault("moves ((((((1", 11);
        fault("moves - - - - - - 1", 16);
        fault("moves not not not not not not 1", 26);
        fault("moves not(-(not -1", 16);
        fault("moves not not not not not 1 + -1", 30);
        fault("moves not not not not not 1 < (1)", 30);
        fault("moves (((((1+(", 13);
        fault("moves not -1<-(-(-1));", 17);
        stands("moves 1;ugly 1;minds 1;");
        stands("\n moves\n1\n;ugly 1;minds 1; \n");
        stands("moves0001;ugly9999;minds0;");
        stands("moves 1or 2and 3;ugly not thing<place or giver=guests;minds look*number;");
        stands("moves (((((1)))));ugly -----1+-----1*-----1;minds not not not not not 1 and not not 1;");
        stands("moves (1)+(2)*(((((3)))));ugly not(not(not 1));minds not -1<-(-1);");
    }

    private static void textRoom() {
        PutOut x = new PutOut();
        for (int i = 1; i < 6; i++) {
            due("7: a FAULT takes no room", text(x, "moves"), -105);
            due("7: TEXT " + i, text(x, "moves 1;ugly 1;minds 1;"), i);
        }
        due("7: full", text(x, "moves"), FULL);
        due("7: TAPE stays", x.count(3), 5);
        due("7: six of them", x.count(2), 6);
    }

    private static void value(String e, int want) {
        PutOut x = by("moves " + e + ";ugly 0;minds 0;");
        x.thing(0, 0, 0);
        x.thing(0, 74, 2);
        due("7: " + e, x.put(1, 5), want);
    }

    private static void textValues() {
        value("2+3*4", 14);
        value("(2+3)*4", 20);
        value("10-3-2", 5);
        value("10-(3-2)", 9);
        value("-3+5", 2);
        value("-2*-3", 6);
        value("5--2", 7);
        value("0042", 42);
        value("7", 7);
        value("2<3", 1);
        value("3<3", 0);
        value("3=3", 1);
        value("3=2", 0);
        value("3=2+1", 1);
        value("2*3<7", 1);
        value("(2<3)+(3<2)+5", 6);
        value("5 or 0", 1);
        value("0 or 0", 0);
        value("7 and 9", 1);
        value("7 and 0", 0);
        value("0 and 7", 0);
        value("1 and 1", 1);
        value("1 or 0 and 0", 1);
        value("(1 or 0) and 0", 0);
        value("not 5", 0);
        value("not 0", 1);
        value("not not 7", 1);
        value("not 0+3", 0);
        value("(not 0)+3", 4);
        value("not 2<1", 1);
        value("not 0 and 0", 0);
        value("0-1 or 0", 1);
        value("9999*9999*9999<0", 1);
        value("9999*9999*43-417*9999-3150", 14);
        value("thing", 1);
        value("place", 5);
        value("giver", 2);
        value("guests", 0);
        value("look", 4);
        value("number", 7);
        value("number*10+look", 74);
    }

    private static void force() {
        PutOut x = new PutOut();
        due("8: no TEXT 1", x.force(1), BAD);
        due("8: no TEXT -1", x.force(-1), BAD);
        due("8: itself", x.force(0), 0);
        text(x, "moves 7;ugly 1;minds 1;");
        due("8: a TEXT alone is no RULE", x.count(4), 0);
        due("8: which was", x.force(1), 0);
        due("8: THE RULE", x.count(4), 1);
        x.thing(0, 0, 0);
        due("8: it rules", x.put(0, 0), 7);
        due("8: no TEXT 2", x.force(2), BAD);
        due("8: which was", x.force(0), 1);
        due("8: it rules", x.put(0, 1), 1);
    }

    /** A PORTRAIT that GUEST 2 gave on PLACE 2, a VASE (NUMBER 8) that GUEST 1 gave where SEAT 0 alone sees it. */
    private static void portraitAndVase(PutOut x) {
        x.thing(3, 0, 2);
        x.thing(4, 85, 1);
        x.put(0, 2);
        x.put(1, 1);
        x.set(0, 1, 1);
    }

    private static void day() {
        PutOut x = new PutOut();
        portraitAndVase(x);
        due("9: all", x.day(15, 0), 2 * 20 + 9 + (4 + 2) * 20 + 4);
        due("9: MISSED", x.day(15, 1), 2);
        due("9: OFFEND", x.day(15, 2), 3);
        due("9: SAFE", x.day(15, 3), 0);
        due("9: GUEST 2", x.day(4, 0), 13);
        due("9: nothing MISSED", x.day(4, 1), 0);
        due("9: the GIVER isn't offended", x.day(4, 2), 0);
        due("9: all SAFE", x.day(4, 3), 3);
        due("9: nobody", x.day(0, 0), 13);
        due("9: GUEST 3 is not below 2", x.day(8, 2), 0);
        due("9: GUEST 1 misses, and is offended", x.day(2, 0), 20 + 9 + 80 + 4);
        x.put(1, NONE);
        due("9: nowhere it isn't ugly", x.day(0, 0), 9);
        due("9: nowhere it is MISSED", x.day(2, 1), 2);
        due("9: nowhere it offends nobody", x.day(1, 2), 1);
        due("9: guests -1", x.day(-1, 0), BAD);
        due("9: guests 16", x.day(16, 0), BAD);
        due("9: what -1", x.day(0, -1), BAD);
        due("9: what 4", x.day(0, 4), BAD);
        PutOut y = new PutOut();
        int[] missed = {1, 1, 2, 2, 3, 0};
        for (int kind = 0; kind < 6; kind++) {
            y.image();
            y.thing(kind, 70, 3);
            due("9: MISSED of KIND " + kind, y.day(8, 0), 20 * missed[kind]);
            due("9: bits of KIND " + kind, y.day(8, 1), missed[kind] > 0 ? 1 : 0);
            y.back();
        }
        int[][] offends = {{0, 0, 0, 0}, {0, 0, 0, 0}, {0, 1, 0, 0}, {1, 1, 0, 0}, {0, 2, 0, 0}, {1, 1, 0, 1}};
        for (int kind = 0; kind < 6; kind++) {
            y.image();
            y.thing(kind, 59, 2);
            y.put(0, 2);
            for (int g = 0; g < 4; g++) {
                due("9: KIND " + kind + " OFFENDS " + g, y.day(1 << g, 0), 20 * offends[kind][g]);
            }
            y.back();
        }
    }

    private static void dayByMinds() {
        PutOut x = by("moves 1;ugly 0;minds guests*10+place;");
        portraitAndVase(x);
        due("9: minds by four guests", x.day(15, 0), 8 * 40);
        due("9: minds by one guest", x.day(2, 0), 5 * 10);
        PutOut y = by("moves 1;ugly place*10+guests;minds 0;");
        portraitAndVase(y);
        due("9: ugly by the PLACE", y.day(15, 0), 30);
        due("9: MISSED though nobody minds", y.day(15, 1), 2);
        due("9: OFFENDS though nobody minds", y.day(15, 2), 3);
        due("9: SAFE since nobody minds", y.day(15, 3), 3);
        PutOut z = by("moves 1;ugly 500;minds 0-500;");
        portraitAndVase(z);
        due("9: bounds", z.day(15, 0), 198);
    }

    private static void best() {
        PutOut x = new PutOut();
        due("10: nothing to PUT", x.best(15, 5, NONE), 0);
        due("10: no THING", x.best(15, 5, 0), -100);
        x.thing(0, 9, 0);
        x.thing(0, 9, 1);
        x.thing(5, 0, 3);
        x.put(2, 0);
        due("10: all that is wanted", x.best(3, 5, NONE), 3);
        due("10: the first PLACE", x.best(3, 5, 0), 0);
        due("10: the next PLACE", x.best(3, 5, 1), 1);
        due("10: BROKEN goes", x.best(3, 5, 2), NONE);
        due("10: nothing truly", x.told(2, 4), 0);
        due("10: ugly goes", x.best(0, 5, NONE), 1);
        due("10: who isn't there", x.best(1, 5, 1), NONE);
        due("10: guests -1", x.best(-1, 5, NONE), -100);
        due("10: guests 16", x.best(16, 5, NONE), -100);
        due("10: n -1", x.best(0, -1, NONE), -100);
        due("10: n 6", x.best(0, 6, NONE), -100);
        due("10: what -2", x.best(0, 5, -2), -100);
        due("10: what 3", x.best(0, 5, 3), -100);
        PutOut free = by("moves 0;ugly 0;minds 0;");
        free.thing(0, 0, 0);
        free.put(0, 3);
        due("10: of like ones nowhere", free.best(15, 5, 0), NONE);
        due("10: of like ones nowhere, by one go", free.best(15, 1, 0), NONE);
        due("10: it must stay", free.best(15, 0, 0), 3);
    }

    private static void bestWithFewGoes() {
        PutOut x = new PutOut();
        for (int t = 0; t < 5; t++) {
            x.thing(0, 9, 0);
        }
        for (int n = 0; n <= 5; n++) {
            due("10: n " + n, x.best(1, n, NONE), n + (5 - n) * 20);
            for (int t = 0; t < 5; t++) {
                // The first of like ROOMS leaves the first THINGS nowhere.
                due("10: n " + n + ", THING " + t, x.best(1, n, t), t < 5 - n ? NONE : t - (5 - n));
            }
        }
    }

    private static void bestByOneGo() {
        PutOut x = new PutOut();
        x.thing(2, 9, 0);
        x.thing(0, 9, 0);
        due("10: one go", x.best(1, 1, NONE), 21);
        due("10: the CLOCK is MISSED more", x.best(1, 1, 0), 0);
        due("10: the THING must wait", x.best(1, 1, 1), NONE);
    }

    private static void bestByPlaces() {
        PutOut x = by("moves place ; ugly place ; minds 50 ;");
        x.thing(0, 0, 0);
        x.thing(2, 90, 1);
        x.thing(1, 0, 2);
        // GUEST 1 is offended by nothing (NUMBER 9 modulo 4 is her own); SEAT 2 sees PLACE 4 alone.
        for (int p = 0; p < 4; p++) {
            x.set(0, p, 3);
        }
        due("10: cost", x.best(7, 5, NONE), 0 + 2 + 8);
        due("10: THING", x.best(7, 5, 0), 0);
        due("10: CLOCK", x.best(7, 5, 1), 1);
        due("10: PICTURE", x.best(7, 5, 2), 4);
        x.put(0, 5);
        // 6 it costs to PUT it nowhere, so the THING is PUT on PLACE 0 at once.
        due("10: from PLACE 5", x.best(0, 5, NONE), 0);
        due("10: THING from PLACE 5", x.best(0, 5, 0), 0);
        due("10: two that change PLACES", swap(), 2);
    }

    /** What it costs that two THINGS, each where the other one's GIVER sits, change PLACES. */
    private static int swap() {
        PutOut x = new PutOut();
        x.thing(0, 9, 0);
        x.thing(0, 9, 1);
        for (int p = 0; p < 6; p++) {
            x.set(0, p, p == 0 ? 1 : p == 1 ? 2 : 0);
        }
        x.put(0, 1);
        x.put(1, 0);
        due("10: by one go nothing is better", x.best(3, 1, NONE), 40);
        due("10: THING 0 goes to PLACE 0", x.best(3, 2, 0), 0);
        due("10: THING 1 goes to PLACE 1", x.best(3, 2, 1), 1);
        return x.best(3, 2, NONE);
    }

    private static void tidy() {
        PutOut x = new PutOut();
        x.thing(0, 9, 0);
        x.thing(3, 8, 1);
        due("11: cost", x.tidy(3), 1 + 1 + 1 + 20);
        due("11: THING", x.told(0, 4), 0);
        due("11: PORTRAIT", x.told(1, 4), 2);
        due("11: nothing to do", x.tidy(3), 21);
        due("11: guests 16", x.tidy(16), BAD);
        due("11: guests -1", x.tidy(-1), BAD);
        due("11: it stays", x.told(1, 4), 2);
        due("11: nobody comes", x.tidy(0), 1);
        due("11: PORTRAIT goes", x.told(1, 4), NONE);
        due("11: what isn't ugly stays", x.told(0, 4), 0);
    }

    private static void once() {
        PutOut x = new PutOut();
        due("12: nothing", x.once(NONE), 0);
        x.thing(0, 5, 0);
        days(x, 0, 0, 1);
        due("12: one DAY it is MISSED", x.once(NONE), 20);
        due("12: nowhere", x.once(0), NONE);
        x.set(2, 4, 3);
        due("12: seven DAYS it is ugly", x.once(NONE), 1 + 7 * 4);
        due("12: PLACE 0", x.once(0), 0);
        x.set(0, 0, 0);
        due("12: PLACE 1", x.once(0), 1);
        x.put(0, 5);
        due("12: it stays", x.once(NONE), 28);
        due("12: where it is", x.once(0), 5);
        due("12: what 1", x.once(1), -100);
        due("12: what -2", x.once(-2), -100);
        due("12: nothing truly", x.told(0, 4), 5);
    }

    private static void week() {
        PutOut x = new PutOut();
        due("13: nothing", x.week(0), 0);
        x.thing(0, 5, 0);
        x.thing(0, 5, 0);
        days(x, 0, 0, 1);
        due("13: there and away", x.week(0), 2 * (1 + 4 + 1));
        due("13: THINGS", x.week(1), 4);
        due("13: DAYS", x.week(2), 2);
        days(x, 0, 0, 0, 0, 0, 0, 1);
        due("13: the last DAY", x.week(0), 2 * 5);
        due("13: THINGS by the last DAY", x.week(1), 2);
        due("13: DAYS by the last DAY", x.week(2), 1);
        x.put(0, 0);
        due("13: from where it is", x.week(0), 1 + 2 * 5);
        due("13: nothing truly", x.told(0, 4), 0);
        days(x, 0, 0, 0, 0, 0, 0, 0);
        due("13: one THING", x.week(1), 1);
        due("13: one DAY", x.week(2), 1);
        due("13: what -1", x.week(-1), BAD);
        due("13: what 3", x.week(3), BAD);
    }

    private static void dearest() {
        PutOut x = new PutOut();
        due("14: of like ones the first", x.dearest(0), 0);
        x.thing(0, 5, 0);
        x.thing(0, 5, 1);
        days(x, 2, 1);
        // On DAY 0 one is PUT out, on DAY 1 it goes and the other one is PUT out, on DAY 2 that one goes.
        due("14: of like ones the first, both come", x.dearest(0), 0);
        due("14: WEEK without her", x.dearest(1), 6);
        days(x, 0, 1, 0, 2, 0, 2, 0);
        due("14: all", x.week(0), 18);
        due("14: GUEST 1", x.dearest(0), 1);
        due("14: WEEK then", x.dearest(1), 6);
        days(x, 0, 1, 0, 2, 0, 1, 0);
        due("14: GUEST 0", x.dearest(0), 0);
        due("14: he comes still", x.count(16), 1);
        due("14: what -1", x.dearest(-1), BAD);
        due("14: what 2", x.dearest(2), BAD);
    }

    private static void give() {
        PutOut x = new PutOut();
        due("15: nothing", x.give(), NONE);
        x.thing(0, 0, 0);
        x.thing(5, 0, 3);
        x.thing(5, 0, 3);
        due("15: none costs", x.give(), NONE);
        x.put(2, 1);
        due("15: what must go", x.give(), 2);
        x.put(1, 0);
        due("15: of like ones the first", x.give(), 1);
        due("15: nothing truly", x.count(0), 3);
        PutOut y = by("moves 1;ugly 9;minds guests*2;");
        y.thing(0, 0, 0);
        y.thing(0, 0, 1);
        days(y, 3, 1, 1);
        due("15: not less", y.give(), NONE);
        y.put(1, 2);
        due("15: less by one go", y.give(), 1);
        PutOut z = by("moves thing*9;ugly 0;minds 0;");
        z.thing(5, 0, 0);
        z.thing(5, 0, 0);
        z.put(1, 0);
        due("15: moves may be dear, but none are due", z.give(), NONE);
        z.put(0, 1);
        due("15: a go for nothing is none", z.give(), NONE);
        PutOut clocks = new PutOut();
        clocks.thing(2, 9, 3);
        clocks.put(0, 0);
        for (int t = 1; t < 5; t++) {
            clocks.thing(2, 9, 0);
        }
        days(clocks, 1, 1, 1, 1, 1, 1, 1);
        due("15: what is given away needs no PLACE", clocks.give(), 0);
    }

    private static void seat() {
        PutOut x = new PutOut();
        due("16: nothing", x.seat(3, 6), 0);
        x.thing(0, 0, 0);
        x.put(0, 0);
        x.set(0, 0, 4);
        days(x, 1);
        due("16: where he SEES it", x.seat(0, 0), 2);
        due("16: he doesn't come", x.seat(0, 1), 0);
        due("16: whom it is nothing to", x.seat(1, 0), 0);
        x.thing(5, 0, 0);
        x.put(1, 1);
        x.set(0, 1, 3);
        days(x, 3);
        due("16: where she doesn't see it", x.seat(1, 0), 2);
        due("16: he sits where he sat", x.count(11), 0);
        due("16: she sits where she sat", x.count(12), 1);
        due("16: guest 4", x.seat(4, 0), BAD);
        due("16: guest -1", x.seat(-1, 0), BAD);
        due("16: day 7", x.seat(0, 7), BAD);
        due("16: day -1", x.seat(0, -1), BAD);
    }

    private static void seenExpected() {
        PutOut x = new PutOut();
        x.thing(0, 5, 0);
        x.thing(0, 5, 2);
        row(x, 0, 3, 99);
        // THING 0 is PUT out, THING 1 is not: GUEST 0 comes and GUEST 2 does not.
        due("17: how many", x.seen(0, 0), 4);
        due("17: the least", x.seen(0, 1), 1);
        row(x, 0, -7, 5);
        due("17: how many for GUEST 2", x.seen(0, 0), 4);
        due("17: the least for GUEST 2", x.seen(0, 1), 4);
        x.set(0, 5, 11);
        due("17: nobody, since GUEST 2 doesn't see it", x.seen(0, 0), 0);
        due("17: NONE", x.seen(0, 1), NONE);
        row(x, 0, 6, 6);
        due("17: 6 is nowhere", x.seen(0, 0), 4);
        due("17: nobody comes", x.seen(0, 1), 0);
        x.put(0, 1);
        due("17: GOES don't matter", x.seen(0, 0), 4);
    }

    private static void seenSurprised() {
        PutOut x = new PutOut();
        x.thing(0, 0, 0);
        x.thing(5, 0, 1);
        x.thing(2, 0, 2);
        x.thing(0, 0, 3);
        row(x, 3, -1, -1, -1, -1);
        due("17: SURPRISED (not by BROKEN)", x.seen(3, 2), 13);
        row(x, 3, 0, 1, 2, 3);
        due("17: nobody is SURPRISED", x.seen(3, 2), 0);
        x.set(0, 3, 7);
        due("17: GUEST 3 doesn't SEE it", x.seen(3, 2), 8);
        x.set(1, 3, 0);
        due("17: GUEST 3 sits elsewhere", x.seen(3, 2), 0);
    }

    private static void seenRefused() {
        PutOut x = new PutOut();
        x.thing(3, 0, 0);
        x.thing(2, 0, 0);
        due("17: sheet -1", x.seen(-1, 0), BAD);
        due("17: sheet 4", x.seen(4, 0), BAD);
        due("17: what -1", x.seen(0, -1), BAD);
        due("17: what 3", x.seen(0, 3), BAD);
        due("17: missing", x.seen(0, 0), -11);
        row(x, 0, 2);
        due("17: too small", x.seen(0, 0), BAD);
        row(x, 0, 2, 1, 0);
        due("17: too large", x.seen(0, 0), BAD);
        row(x, 0, 2, 2);
        due("17: two on one PLACE", x.seen(0, 0), STATE);
        row(x, 0, 0, 1);
        due("17: PORTRAIT on PLACE 0", x.seen(0, 1), STATE);
        row(x, 0, 2, 5);
        due("17: CLOCK on PLACE 5", x.seen(0, 2), STATE);
        row(x, 0, -1, -1);
        due("17: two nowhere", x.seen(0, 2), 1);
        x.sheet(1, 0, 2);
        x.cell(1, 0, 258);
        x.cell(1, 1, 255);
        due("17: bytes (2, nowhere)", x.seen(1, 2), 1);
        x.sheet(1, 1, 2);
        x.cell(1, 0, 65538);
        x.cell(1, 1, 256);
        due("17: shorts (2, nowhere)", x.seen(1, 2), 1);
    }

    private static void film() {
        PutOut x = new PutOut();
        x.thing(3, 9, 3);
        x.thing(1, 9, 3);
        x.thing(2, 9, 3);
        x.set(0, 0, 0);
        x.set(0, 2, 0);
        // The PORTRAIT is MISSED most but offends, alone GUEST 3 doesn't mind it: PLACE 4; the CLOCK: PLACE 1.
        due("18: how many", x.film(2, 8), 3);
        due("18: nothing truly", x.count(1), 0);
        due("18: three of them", x.cell(2, 3, 0), -12);
        x.sheet(1, 0, 3);
        due("18: bytes", x.copy(2, 0, 1, 0, 3), 3);
        x.sheet(0, 2, 3);
        due("18: no ints", x.copy(2, 0, 0, 0, 3), -13);
        due("18: a ROOM", x.seen(2, 2), 8);
        due("18: (4, nowhere, 1) is no THING", x.things(2, 0, 0, 1), 0);
        x.cell(2, 1, 57);
        due("18: (4, 57, 1) is one", x.things(2, 0, 0, 1), 1);
        due("18: 4", x.told(3, 0), 4);
        due("18: 57", x.told(3, 3), 7);
        due("18: 1", x.told(3, 2), 1);
        due("18: sheet 4", x.film(4, 0), BAD);
        due("18: sheet -1", x.film(-1, 0), BAD);
        due("18: guests 16", x.film(0, 16), BAD);
        due("18: guests -1", x.film(0, -1), BAD);
        due("18: none of them truly", x.copy(0, 0, 0, 0, 3), 3);
        PutOut y = new PutOut();
        y.sheet(0, 2, 7);
        due("18: no THINGS", y.film(0, 15), 0);
        due("18: an empty row", y.cell(0, 0, 0), -12);
        due("18: of bytes", y.things(0, 0, 0, 0), 0);
    }

    private static int[] daysOf(int seed) {
        int[] days = new int[7];
        int z = seed;
        for (int d = 0; d < 7; d++) {
            z = z * 1103515245 + 12345;
            days[d] = (z >>> 9) % 16;
        }
        return days;
    }

    /** Some THINGS for a week that is drawn. */
    private static PutOut forWeeks(int look) {
        PutOut x = new PutOut();
        x.thing(0, look, 0);
        x.thing(2, 10 + look, 1);
        x.thing(3, look, 2);
        x.put(1, 3);
        x.set(0, 2, 5);
        return x;
    }

    private static void drawn() {
        due("19: the first of seed 1", daysOf(1)[0], 15);
        for (int seed : new int[] {0, 1, -1, 77, Integer.MAX_VALUE, Integer.MIN_VALUE}) {
            PutOut x = forWeeks(4);
            int got = x.drawn(seed);
            due("19: no DAYS truly", x.count(15) + x.count(18) + x.count(21), 0);
            days(x, daysOf(seed));
            due("19: seed " + seed, got, x.week(0));
        }
    }

    private static void chance() {
        PutOut none = new PutOut();
        due("20: all of ten", none.chance(3, 10, 0), 1);
        due("20: lowest terms", none.chance(3, 10, 1), 1);
        due("20: all of one", none.chance(3, 1, 0), 1);
        for (int n : new int[] {0, 11, -1, Integer.MIN_VALUE}) {
            due("20: n " + n, none.chance(0, n, 0), PutOut.NO);
        }
        due("20: part 2", none.chance(0, 1, 2), PutOut.NO);
        due("20: part -1", none.chance(0, 1, -1), PutOut.NO);
        int between = 0;
        for (int look = 0; look < 10; look++) {
            for (int seed : new int[] {5, Integer.MAX_VALUE - 2}) {
                between += chanceByHand(look, seed) ? 1 : 0;
            }
        }
        due("20: some chances are neither 0 nor 1", between > 0 ? 1 : 0, 1);
    }

    private static boolean chanceByHand(int look, int seed) {
        int above = 0;
        for (int i = 0; i < 8; i++) {
            PutOut x = forWeeks(look);
            days(x, daysOf(seed + i));
            above += x.once(NONE) <= x.week(0) ? 1 : 0;
        }
        int below = 8;
        while (above % 2 == 0 && below % 2 == 0) {
            above /= 2;
            below /= 2;
        }
        PutOut x = forWeeks(look);
        due("20: above, LOOK " + look + ", seed " + seed, x.chance(seed, 8, 0), above);
        due("20: below, LOOK " + look + ", seed " + seed, x.chance(seed, 8, 1), below);
        due("20: no DAYS truly", x.count(15) + x.count(18) + x.count(21), 0);
        return above > 0 && above < below;
    }

    private static void image() {
        PutOut x = new PutOut();
        due("21: no THINGS", x.image(), 0);
        x.thing(0, 0, 0);
        due("21: the first one is kept still", x.back(), 0);
        x.thing(0, 0, 0);
        x.thing(0, 0, 0);
        due("21: two", x.image(), 2);
        x.thing(0, 0, 0);
        due("21: the second one is kept now", x.back(), 2);
    }

    private static void back() {
        PutOut x = new PutOut();
        due("22: none", x.back(), STATE);
        text(x, "moves 5;ugly 5;minds 5;");
        x.force(1);
        x.thing(2, 34, 1);
        x.put(0, 3);
        x.set(0, 4, 9);
        x.set(1, 2, 0);
        x.set(2, 6, 11);
        x.image();
        for (int i = 0; i < 2; i++) {
            x.set(0, 4, 1);
            x.set(1, 2, 1);
            x.set(2, 6, 2);
            x.set(3, 0, 4);
            x.set(4, 0, 2);
            x.set(5, 0, 5);
            x.put(0, 1);
            x.force(0);
            x.thing(5, 99, 3);
            x.put(1, 3);
            x.feed(' ');
            text(x, " moves 1;ugly 1;minds 1;");
            x.feed(' ');
            x.sheet(i, 1, 2);
            due("22: how many", x.back(), 1);
            int[] what = {0, 1, 2, 3, 4, 9, 13, 21};
            int[] want = {1, 1, 3 + i, 1, 1, 9, 0, 11};
            for (int j = 0; j < what.length; j++) {
                due("22: count " + what[j], x.count(what[j]), want[j]);
            }
            int[] told = {2, 3, 1, 4, 3};
            for (int j = 0; j < told.length; j++) {
                due("22: told " + j, x.told(0, j), told[j]);
            }
            due("22: gone", x.told(1, 0), -100);
            due("22: SHEETS stay", x.cell(i, 1, 0), 1);
            x.text();
        }
        due("22: another one has room", x.thing(4, 12, 3), 1);
        due("22: its KIND", x.told(1, 0), 4);
        due("22: it is nowhere", x.told(1, 4), NONE);
    }

    private static void count() {
        PutOut x = new PutOut();
        x.thing(0, 0, 0);
        x.thing(0, 0, 0);
        x.put(1, 5);
        x.feed('x');
        x.feed('y');
        due("23: THINGS", x.count(0), 2);
        due("23: PUT", x.count(1), 1);
        due("23: TAPE", x.count(3), 2);
        x.text();
        text(x, "moves 1;ugly 1;minds 1;");
        due("23: TEXTS", x.count(2), 2);
        due("23: TAPE again", x.count(3), 0);
        for (int p = 0; p < 6; p++) {
            x.set(0, p, p + 1);
        }
        for (int g = 0; g < 4; g++) {
            x.set(1, g, 3 - g);
        }
        for (int d = 0; d < 7; d++) {
            x.set(2, d, 15 - d);
        }
        for (int what = 5; what < 22; what++) {
            due("23: what " + what, x.count(what), what < 11 ? what - 4 : what < 15 ? 14 - what : 30 - what);
        }
        due("23: what -1", x.count(-1), BAD);
        due("23: what 22", x.count(22), BAD);
    }

    private static void sheet() {
        PutOut x = new PutOut();
        due("24: sheet -1", x.sheet(-1, 0, 1), BAD);
        due("24: sheet 4", x.sheet(4, 0, 1), BAD);
        due("24: sort -2", x.sheet(0, -2, 1), BAD);
        due("24: sort 3", x.sheet(0, 3, -1), BAD);
        due("24: n 41", x.sheet(0, 0, 41), BAD);
        due("24: n -1", x.sheet(0, 0, -1), -14);
        due("24: none came", x.cell(0, 0, 0), -11);
        for (int sort = 0; sort < 3; sort++) {
            due("24: 40", x.sheet(sort, sort, 40), 1);
            due("24: item 39", x.cell(sort, 39, 5), 1);
            due("24: item 40", x.cell(sort, 40, 5), -12);
        }
        due("24: no row by a refusal", x.sheet(0, 0, -1), -14);
        due("24: it stays", x.cell(0, 39, 5), 1);
        due("24: again", x.sheet(0, 2, 3), 1);
        due("24: all 0: a THING", x.things(0, 2, 0, 1), 1);
        due("24: KIND 0", x.told(0, 0), 0);
        x.cell(0, 0, 9);
        x.sheet(0, 2, 3);
        due("24: all 0 again: a THING", x.things(0, 2, 0, 1), 1);
        due("24: n 0", x.sheet(0, 0, 0), 1);
        due("24: empty", x.cell(0, 0, 0), -12);
        due("24: missing, n 41", x.sheet(0, -1, 41), 1);
        due("24: missing", x.cell(0, 0, 0), -11);
        due("24: missing, n -1", x.sheet(1, -1, -1), 1);
        due("24: missing too", x.cell(1, 0, 0), -11);
    }

    private static void cell() {
        PutOut x = new PutOut();
        due("25: sheet -1", x.cell(-1, 0, 0), BAD);
        due("25: sheet 4", x.cell(4, 0, 0), BAD);
        due("25: missing", x.cell(0, -1, 0), -11);
        // 65536 + 256 + 3 is 3 as a byte, 259 as a short; a KIND must be 0 .. 5.
        int[] came = {1, 0, 0};
        for (int sort = 0; sort < 3; sort++) {
            x.sheet(sort, sort, 3);
            due("25: cell", x.cell(sort, 0, 65536 + 256 + 3), 1);
            due("25: -1", x.cell(sort, -1, 0), -12);
            due("25: 3", x.cell(sort, 3, 0), -12);
            due("25: lowest 8 bits, sort " + sort, x.things(sort, sort, 0, 1), came[sort]);
        }
        int[] cameThen = {1, 1, 0};
        for (int sort = 0; sort < 3; sort++) {
            x.cell(sort, 0, 65536 + 3);
            due("25: lowest 16 bits, sort " + sort, x.things(sort, sort, 0, 1), cameThen[sort]);
            x.cell(sort, 0, 3);
            x.cell(sort, 2, 2);
            due("25: as it is, sort " + sort, x.things(sort, sort, 0, 1), sort < 2 ? 1 : 0);
        }
        due("25: how many", x.count(0), 5);
        due("25: what was written", x.told(4, 2), 2);
    }

    private static void copy() {
        PutOut x = new PutOut();
        row(x, 0, 1, 57, 2, 3, 4);
        due("26: sheet -1", x.copy(-1, 0, 0, 0, 0), BAD);
        due("26: other 4", x.copy(0, 0, 4, 0, 0), BAD);
        due("26: missing", x.copy(0, 0, 1, 0, -1), -11);
        due("26: missing too", x.copy(1, 0, 0, 0, -1), -11);
        x.sheet(1, 1, 5);
        due("26: unlike ahead of outside", x.copy(0, 0, 1, 0, 9), -13);
        x.sheet(1, 2, 3);
        due("26: n -1", x.copy(0, 0, 1, 0, -1), -12);
        due("26: i -1", x.copy(0, -1, 1, 0, 1), -12);
        due("26: j -1", x.copy(0, 0, 1, -1, 1), -12);
        due("26: too many", x.copy(0, 3, 1, 0, 3), -12);
        due("26: too many there", x.copy(0, 0, 1, 1, 3), -12);
        due("26: large", x.copy(0, Integer.MAX_VALUE, 1, 0, 1), -12);
        due("26: large n", x.copy(0, 1, 1, 1, Integer.MAX_VALUE), -12);
        due("26: none, at the end", x.copy(0, 5, 1, 3, 0), 0);
        due("26: none, behind the end", x.copy(0, 6, 1, 3, 0), -12);
        due("26: copied", x.copy(0, 0, 1, 0, 3), 3);
        due("26: a THING by it", x.things(1, 2, 0, 1), 1);
        due("26: its NUMBER", x.told(0, 1), 5);
        // (1, 57, 2, 3, 4) becomes (1, 1, 57, 2, 3): as they were, not (1, 1, 1, 1, 1).
        due("26: over itself", x.copy(0, 0, 0, 1, 4), 4);
        due("26: a THING by that", x.things(0, 2, 1, 1), 1);
        due("26: its LOOK", x.told(1, 3), 7);
        due("26: its GIVER", x.told(1, 2), 2);
    }

    private static void things() {
        PutOut x = new PutOut();
        due("27: sheet -1", x.things(-1, 0, 0, 0), BAD);
        due("27: sheet 4", x.things(4, 0, 0, 0), BAD);
        due("27: sort -1", x.things(0, -1, 0, 0), BAD);
        due("27: sort 3", x.things(0, 3, 0, 0), BAD);
        due("27: n -1", x.things(0, 0, 0, -1), BAD);
        due("27: n 6", x.things(0, 0, 0, 6), BAD);
        due("27: missing", x.things(0, 0, 0, 0), -11);
        row(x, 0, 77, 1, 11, 1, 9, 9, 9, 2, 22, 2, 3, 33);
        due("27: another sort", x.things(0, 1, 0, 0), -13);
        due("27: none", x.things(0, 2, 0, 0), 0);
        due("27: from -1", x.things(0, 2, -1, 1), -12);
        due("27: from 12", x.things(0, 2, 12, 1), -12);
        due("27: from the largest", x.things(0, 2, Integer.MAX_VALUE, 5), -12);
        due("27: none came", x.count(0), 0);
        due("27: two of three", x.things(0, 2, 1, 3), 2);
        due("27: the second one", x.told(1, 0), 2);
        due("27: its NUMBER", x.told(1, 1), 2);
        due("27: what stood ahead came", x.things(0, 2, 7, 2), -12);
        due("27: three", x.count(0), 3);
        x.sheet(1, 0, 15);
        due("27: as many as have room", x.things(1, 0, 0, 5), 2);
        due("27: five", x.count(0), 5);
        due("27: no room, but outside", x.things(1, 0, 9, 3), -12);
    }

    private static void taken() {
        int[] under = {1, 3, 5, 11, 21, 33};
        for (int kind = 0; kind < 6; kind++) {
            PutOut x = new PutOut();
            x.thing(kind, 60 + kind, 0);
            for (int k = 0; k < 6; k++) {
                due("28: KIND " + kind + " for " + k, x.taken(0, k), (under[kind] >> k & 1) != 0 ? 6 : -13);
            }
            due("28: k -1", x.taken(0, -1), BAD);
            due("28: k 6", x.taken(0, 6), BAD);
            due("28: BAD ahead of -11", x.taken(1, 6), BAD);
            due("28: no THING", x.taken(1, 0), -11);
            due("28: no THING -1", x.taken(-1, 0), -11);
        }
    }
}
