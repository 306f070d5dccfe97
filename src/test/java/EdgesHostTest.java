/** The edges of promises 24 to 28: SHEETS and what a THING is taken for: a test for each sentence. */
final class EdgesHostTest extends Scene {
    public static void main(String[] args) {
        sheetsAreMissingAtFirst();
        sheetIsBad();
        sheetNBehindSheetAndSort();
        sheetOf40();
        sheetOfNone();
        sheetIsAll0();
        sheetMissingWhateverN();
        sheetRefusedStays();
        sheetsAreApart();
        cellIsBad();
        cellMissingAheadOfOutside();
        cellOutside();
        cellOfBytes();
        cellOfShorts();
        cellOfInts();
        copyIsBad();
        copyMissingAheadOfUnlike();
        copyUnlikeAheadOfOutside();
        copyOutside();
        copyOfNone();
        copyOfAll();
        copyOverItself();
        copyOfSorts();
        copyRefusedStays();
        thingsIsBad();
        thingsUnlike();
        thingsMissing();
        thingsOfNone();
        thingsOutside();
        thingsWhatStoodAheadCame();
        thingsThreeByThree();
        thingsLeftOut();
        thingsWithoutRoom();
        takenIsBad();
        takenMissingAheadOfUnlike();
        takenForKindsAbove();
        takenAnswersTheNumberOfNow();
        CHECKS.end();
    }

    // SHEETS 0 .. 3 are rows of numbers, or missing (as all are at first)
    private static void sheetsAreMissingAtFirst() {
        PutOut x = new PutOut();
        for (int sheet = 0; sheet < 4; sheet++) {
            due("25: missing", x.cell(sheet, 0, 0), MISSING);
            due("26: missing", x.copy(sheet, 0, sheet, 0, 0), MISSING);
            due("27: missing", x.things(sheet, 0, 0, 0), MISSING);
            due("17: missing", x.seen(sheet, 0), MISSING);
        }
    }

    // 24: BAD: no such SHEET, sort; n above 40; -14.
    private static void sheetIsBad() {
        PutOut x = new PutOut();
        due("24: SHEET -1", x.sheet(-1, 0, 1), BAD);
        due("24: SHEET 4", x.sheet(4, 0, 1), BAD);
        due("24: sort -2", x.sheet(0, -2, 1), BAD);
        due("24: sort 3", x.sheet(0, 3, 1), BAD);
        due("24: n 41", x.sheet(0, 0, 41), BAD);
        due("24: n -1", x.sheet(0, 0, -1), NEGATIVE);
        for (int far : FAR) {
            due("24: SHEET " + far, x.sheet(far, 0, 1), BAD);
            due("24: sort " + far, x.sheet(0, far, 1), BAD);
            due("24: n " + far, x.sheet(0, 0, far), far < 0 ? NEGATIVE : BAD);
        }
        due("24: none came", x.cell(0, 0, 0), MISSING);
    }

    private static void sheetNBehindSheetAndSort() {
        PutOut x = new PutOut();
        due("24: SHEET 4, n -1", x.sheet(4, 0, -1), BAD);
        due("24: sort 3, n -1", x.sheet(0, 3, -1), BAD);
        due("24: SHEET 4, missing", x.sheet(4, -1, 0), BAD);
        due("24: SHEET -1, missing", x.sheet(-1, -1, -1), BAD);
    }

    private static void sheetOf40() {
        PutOut x = new PutOut();
        for (int sort = 0; sort < 3; sort++) {
            due("24: 40 of sort " + sort, x.sheet(sort + 1, sort, 40), 1);
            due("25: the last item", x.cell(sort + 1, 39, 1), 1);
            due("25: behind it", x.cell(sort + 1, 40, 1), OUTSIDE);
            due("24: 39 of sort " + sort, x.sheet(sort + 1, sort, 39), 1);
            due("25: behind the last item", x.cell(sort + 1, 39, 1), OUTSIDE);
        }
    }

    private static void sheetOfNone() {
        PutOut x = new PutOut();
        for (int sort = 0; sort < 3; sort++) {
            due("24: none of sort " + sort, x.sheet(0, sort, 0), 1);
            due("25: no item, but not missing", x.cell(0, 0, 1), OUTSIDE);
            due("26: none to copy", x.copy(0, 0, 0, 0, 0), 0);
            due("27: of its sort", x.things(0, sort, 0, 0), 0);
            due("27: of no other", x.things(0, (sort + 1) % 3, 0, 0), UNLIKE);
        }
    }

    // a row of n of a sort, all 0
    private static void sheetIsAll0() {
        for (int sort = 0; sort < 3; sort++) {
            PutOut x = new PutOut();
            rowOf(x, 0, sort, 9, 8, 7, 6, 5);
            due("24: again", x.sheet(0, sort, 3), 1);
            for (int i = 0; i < 3; i++) {
                due("24: item " + i, item(x, 0, sort, i), 0);
            }
            x.cell(0, 2, 4);
            due("24: larger", x.sheet(0, sort, 7), 1);
            for (int i = 0; i < 7; i++) {
                due("24: item " + i, item(x, 0, sort, i), 0);
            }
            due("24: its size", size(x, 0), 7);
        }
    }

    // or missing (sort -1: n does not matter): 1.
    private static void sheetMissingWhateverN() {
        int[] any = {0, 1, 40, 41, -1, Integer.MIN_VALUE, Integer.MAX_VALUE};
        for (int n : any) {
            PutOut x = new PutOut();
            row(x, 2, 1, 2);
            due("24: missing, n " + n, x.sheet(2, -1, n), 1);
            due("25: missing", x.cell(2, 0, 0), MISSING);
            due("24: missing once more", x.sheet(2, -1, n), 1);
            due("24: there again", x.sheet(2, 2, 2), 1);
            due("24: it is 0", item(x, 2, 2, 1), 0);
        }
    }

    private static void sheetRefusedStays() {
        PutOut x = new PutOut();
        row(x, 1, 5, 6, 7);
        x.sheet(1, 3, 1);
        x.sheet(1, -2, 1);
        x.sheet(1, 0, 41);
        x.sheet(1, 0, -1);
        due("24: its size", size(x, 1), 3);
        due("24: an item", item(x, 1, 2, 2), 7);
    }

    private static void sheetsAreApart() {
        PutOut x = new PutOut();
        for (int sheet = 0; sheet < 3; sheet++) {
            row(x, sheet, 10 + sheet, 20 + sheet);
        }
        for (int sheet = 0; sheet < 3; sheet++) {
            due("24: SHEET " + sheet, item(x, sheet, 2, 0), 10 + sheet);
            due("24: SHEET " + sheet, item(x, sheet, 2, 1), 20 + sheet);
        }
        x.sheet(1, -1, 0);
        due("24: SHEET 0 stays", item(x, 0, 2, 1), 20);
        due("24: SHEET 2 stays", item(x, 2, 2, 1), 22);
    }

    // 25: BAD: no such SHEET; -11; -12.
    private static void cellIsBad() {
        PutOut x = new PutOut();
        due("25: SHEET -1", x.cell(-1, 0, 0), BAD);
        due("25: SHEET 4", x.cell(4, 0, 0), BAD);
        for (int far : FAR) {
            due("25: SHEET " + far, x.cell(far, -1, 0), BAD);
        }
    }

    private static void cellMissingAheadOfOutside() {
        PutOut x = new PutOut();
        due("25: item -1", x.cell(0, -1, 0), MISSING);
        due("25: item 40", x.cell(0, 40, 0), MISSING);
        x.sheet(0, 0, 0);
        due("25: item 0 of none", x.cell(0, 0, 0), OUTSIDE);
    }

    private static void cellOutside() {
        PutOut x = new PutOut();
        row(x, 0, 1, 2, 3);
        due("25: item 0", x.cell(0, 0, 4), 1);
        due("25: item 2", x.cell(0, 2, 5), 1);
        due("25: item -1", x.cell(0, -1, 9), OUTSIDE);
        due("25: item 3", x.cell(0, 3, 9), OUTSIDE);
        for (int far : FAR) {
            due("25: item " + far, x.cell(0, far, 9), OUTSIDE);
        }
        due("25: item 0", item(x, 0, 2, 0), 4);
        due("25: item 1", item(x, 0, 2, 1), 2);
        due("25: item 2", item(x, 0, 2, 2), 5);
    }

    private static void narrowed(int sort, int v, int want) {
        PutOut x = new PutOut();
        x.sheet(0, sort, 2);
        due("25: " + v, x.cell(0, 1, v), 1);
        due("25: " + v + " as sort " + sort, item(x, 0, sort, 1), want);
        due("25: the other one", item(x, 0, sort, 0), 0);
    }

    // of bytes, .. its lowest 8 .. bits
    private static void cellOfBytes() {
        narrowed(0, 99, 99);
        narrowed(0, 256, 0);
        narrowed(0, 256 + 99, 99);
        narrowed(0, 255, NONE);
        narrowed(0, 128, NONE);
        narrowed(0, -1, NONE);
        narrowed(0, -255, 1);
        narrowed(0, 65536 + 7, 7);
        narrowed(0, Integer.MIN_VALUE, 0);
        narrowed(0, Integer.MAX_VALUE, NONE);
        narrowed(0, Integer.MIN_VALUE + 42, 42);
    }

    // shorts its lowest .. 16 bits
    private static void cellOfShorts() {
        narrowed(1, 99, 99);
        narrowed(1, 256, NONE);
        narrowed(1, 65536, 0);
        narrowed(1, 65536 + 99, 99);
        narrowed(1, 65535, NONE);
        narrowed(1, 32768, NONE);
        narrowed(1, -65535, 1);
        narrowed(1, Integer.MIN_VALUE + 42, 42);
        narrowed(1, Integer.MAX_VALUE, NONE);
    }

    private static void cellOfInts() {
        narrowed(2, 99, 99);
        narrowed(2, 256, NONE);
        narrowed(2, 65536, NONE);
        narrowed(2, 65536 + 7, NONE);
        narrowed(2, Integer.MIN_VALUE, NONE);
        narrowed(2, Integer.MIN_VALUE + 42, NONE);
        narrowed(2, Integer.MAX_VALUE, NONE);
    }

    // 26: BAD: no such SHEET; -11; -13: they are of unlike sorts; -12
    private static void copyIsBad() {
        PutOut x = new PutOut();
        row(x, 0, 1, 2);
        int[] wrong = {-1, 4, Integer.MIN_VALUE, Integer.MAX_VALUE};
        for (int sheet : wrong) {
            due("26: SHEET " + sheet, x.copy(sheet, 0, 0, 0, 1), BAD);
            due("26: other " + sheet, x.copy(0, 0, sheet, 0, 1), BAD);
            due("26: both " + sheet, x.copy(sheet, 0, sheet, 0, 1), BAD);
            due("26: SHEET " + sheet + ", other missing", x.copy(sheet, 0, 1, 0, -1), BAD);
            due("26: other " + sheet + ", SHEET missing", x.copy(1, 0, sheet, 0, -1), BAD);
        }
    }

    private static void copyMissingAheadOfUnlike() {
        PutOut x = new PutOut();
        due("26: both missing", x.copy(0, 0, 1, 0, 0), MISSING);
        due("26: the same one missing", x.copy(0, 0, 0, 0, 0), MISSING);
        row(x, 0, 1, 2);
        due("26: other missing", x.copy(0, 0, 1, 0, 1), MISSING);
        due("26: SHEET missing", x.copy(1, 0, 0, 0, 1), MISSING);
        due("26: other missing, outside", x.copy(0, 9, 1, 9, -1), MISSING);
        due("26: SHEET missing, outside", x.copy(1, 9, 0, 9, -1), MISSING);
    }

    private static void copyUnlikeAheadOfOutside() {
        for (int a = 0; a < 3; a++) {
            for (int b = 0; b < 3; b++) {
                PutOut x = new PutOut();
                x.sheet(0, a, 2);
                x.sheet(1, b, 2);
                due("26: sorts " + a + " and " + b, x.copy(0, 0, 1, 0, 2), a == b ? 2 : UNLIKE);
                due("26: and outside", x.copy(0, 0, 1, 0, 3), a == b ? OUTSIDE : UNLIKE);
                due("26: and below 0", x.copy(0, 0, 1, 0, -1), a == b ? OUTSIDE : UNLIKE);
                due("26: and none", x.copy(0, 0, 1, 0, 0), a == b ? 0 : UNLIKE);
            }
        }
    }

    // -12 (also with n below 0)
    private static void copyOutside() {
        PutOut x = new PutOut();
        row(x, 0, 1, 2, 3, 4, 5);
        row(x, 1, 6, 7, 8);
        int[][] wrong = {{0, 0, -1}, {-1, 0, 1}, {0, -1, 1}, {-1, -1, 1}, {3, 0, 3}, {0, 1, 3}, {0, 0, 4}, {5, 0, 1},
            {0, 3, 1}, {6, 0, 0}, {0, 4, 0}, {-1, 0, 0}, {0, -1, 0}, {1, 1, Integer.MAX_VALUE},
            {Integer.MAX_VALUE, 0, 1}, {0, Integer.MAX_VALUE, 1}, {Integer.MAX_VALUE, 0, Integer.MAX_VALUE},
            {Integer.MIN_VALUE, 0, 1}, {0, Integer.MIN_VALUE, 1}, {0, 0, Integer.MIN_VALUE}, {1, 1, Integer.MIN_VALUE}};
        for (int[] w : wrong) {
            due("26: " + w[0] + ", " + w[1] + ", " + w[2], x.copy(0, w[0], 1, w[1], w[2]), OUTSIDE);
        }
        due("26: the other way round", x.copy(1, 2, 0, 0, 2), OUTSIDE);
        for (int i = 0; i < 3; i++) {
            due("26: nothing came", item(x, 1, 2, i), 6 + i);
        }
    }

    private static void copyOfNone() {
        PutOut x = new PutOut();
        row(x, 0, 1, 2, 3);
        row(x, 1, 4, 5);
        x.sheet(2, 2, 0);
        due("26: none", x.copy(0, 0, 1, 0, 0), 0);
        due("26: none at the end", x.copy(0, 3, 1, 2, 0), 0);
        due("26: none to an empty one", x.copy(0, 0, 2, 0, 0), 0);
        due("26: none from an empty one", x.copy(2, 0, 0, 3, 0), 0);
        due("26: one to an empty one", x.copy(0, 0, 2, 0, 1), OUTSIDE);
        due("26: one from an empty one", x.copy(2, 0, 0, 0, 1), OUTSIDE);
        due("26: it stays", item(x, 1, 2, 0), 4);
    }

    private static void copyOfAll() {
        PutOut x = new PutOut();
        x.sheet(0, 2, 40);
        x.sheet(1, 2, 40);
        x.cell(0, 0, 11);
        x.cell(0, 39, 22);
        due("26: forty", x.copy(0, 0, 1, 0, 40), 40);
        due("26: the first", item(x, 1, 2, 0), 11);
        due("26: the last", item(x, 1, 2, 39), 22);
        due("26: the last to the first", x.copy(0, 39, 1, 0, 1), 1);
        due("26: the first", item(x, 1, 2, 0), 22);
        due("26: from item 1 on, too many", x.copy(0, 1, 1, 0, 40), OUTSIDE);
        due("26: to item 1 on, too many", x.copy(0, 0, 1, 1, 40), OUTSIDE);
        due("26: as they were", item(x, 0, 2, 0), 11);
    }

    // (as they were)
    private static void copyOverItself() {
        PutOut x = new PutOut();
        row(x, 0, 1, 2, 3, 4, 5);
        due("26: up", x.copy(0, 0, 0, 1, 4), 4);
        int[] up = {1, 1, 2, 3, 4};
        for (int i = 0; i < 5; i++) {
            due("26: up, item " + i, item(x, 0, 2, i), up[i]);
        }
        row(x, 0, 1, 2, 3, 4, 5);
        due("26: down", x.copy(0, 2, 0, 0, 3), 3);
        int[] down = {3, 4, 5, 4, 5};
        for (int i = 0; i < 5; i++) {
            due("26: down, item " + i, item(x, 0, 2, i), down[i]);
        }
        due("26: onto itself", x.copy(0, 1, 0, 1, 4), 4);
        due("26: it stays", item(x, 0, 2, 4), 5);
    }

    private static void copyOfSorts() {
        for (int sort = 0; sort < 3; sort++) {
            PutOut x = new PutOut();
            rowOf(x, 0, sort, 7, 8, 9);
            rowOf(x, 1, sort, 1, 2, 3, 4);
            due("26: two of sort " + sort, x.copy(0, 1, 1, 2, 2), 2);
            int[] want = {1, 2, 8, 9};
            for (int i = 0; i < 4; i++) {
                due("26: item " + i, item(x, 1, sort, i), want[i]);
            }
        }
    }

    private static void copyRefusedStays() {
        PutOut x = new PutOut();
        rowOf(x, 0, 0, 7, 8);
        rowOf(x, 1, 1, 1, 2);
        x.copy(0, 0, 1, 0, 2);
        x.copy(1, 0, 2, 0, 2);
        due("26: it stays", item(x, 1, 1, 0), 1);
        due("26: still missing", x.cell(2, 0, 0), MISSING);
    }

    // 27: BAD: no such SHEET, sort, n; -13; -11; -12
    private static void thingsIsBad() {
        PutOut x = new PutOut();
        row(x, 0, 0, 0, 0);
        int[] sheets = {-1, 4};
        int[] sorts = {-1, 3};
        int[] sizes = {-1, 6};
        for (int i = 0; i < 2; i++) {
            due("27: SHEET " + sheets[i], x.things(sheets[i], 2, 0, 1), BAD);
            due("27: sort " + sorts[i], x.things(0, sorts[i], 0, 1), BAD);
            due("27: n " + sizes[i], x.things(0, 2, 0, sizes[i]), BAD);
            due("27: n " + sizes[i] + ", another sort", x.things(0, 1, 0, sizes[i]), BAD);
            due("27: n " + sizes[i] + ", missing", x.things(1, 1, 0, sizes[i]), BAD);
            due("27: sort " + sorts[i] + ", missing", x.things(1, sorts[i], 0, 1), BAD);
            due("27: n " + sizes[i] + ", outside", x.things(0, 2, 9, sizes[i]), BAD);
        }
        for (int far : FAR) {
            due("27: SHEET " + far, x.things(far, 2, 0, 1), BAD);
            due("27: sort " + far, x.things(0, far, 0, 1), BAD);
            due("27: n " + far, x.things(0, 2, 0, far), BAD);
        }
        due("27: none came", x.count(0), 0);
    }

    private static void thingsUnlike() {
        for (int a = 0; a < 3; a++) {
            PutOut x = new PutOut();
            x.sheet(0, a, 3);
            for (int b = 0; b < 3; b++) {
                due("27: sort " + a + " for " + b + ", none", x.things(0, b, 0, 0), a == b ? 0 : UNLIKE);
                due("27: sort " + a + " for " + b + ", outside", x.things(0, b, 1, 1), a == b ? OUTSIDE : UNLIKE);
                due("27: sort " + a + " for " + b, x.things(0, b, 0, 1), a == b ? 1 : UNLIKE);
            }
            due("27: one came", x.count(0), 1);
        }
    }

    private static void thingsMissing() {
        PutOut x = new PutOut();
        for (int sort = 0; sort < 3; sort++) {
            due("27: missing", x.things(0, sort, 0, 1), MISSING);
            due("27: missing, none", x.things(0, sort, 0, 0), MISSING);
            due("27: missing, outside", x.things(0, sort, -1, 5), MISSING);
        }
    }

    // n of them (0 .. 5)
    private static void thingsOfNone() {
        PutOut x = new PutOut();
        row(x, 0, 0, 0, 0);
        due("27: none", x.things(0, 2, 0, 0), 0);
        due("27: none, at the end", x.things(0, 2, 3, 0), 0);
        due("27: none came", x.count(0), 0);
        x.sheet(0, 2, 0);
        due("27: none of an empty one", x.things(0, 2, 0, 0), 0);
        due("27: one of an empty one", x.things(0, 2, 0, 1), OUTSIDE);
    }

    // -12
    private static void thingsOutside() {
        for (int size = 0; size < 7; size++) {
            PutOut x = new PutOut();
            x.sheet(0, 0, size);
            for (int from = 0; from < 7; from++) {
                x.image();
                boolean inside = from + 3 <= size;
                due("27: from " + from + " of " + size, x.things(0, 0, from, 1), inside ? 1 : OUTSIDE);
                due("27: how many", x.count(0), inside ? 1 : 0);
                x.back();
            }
            due("27: from -1", x.things(0, 0, -1, 1), OUTSIDE);
            due("27: from -3", x.things(0, 0, -3, 2), OUTSIDE);
            for (int far : FAR) {
                due("27: from " + far, x.things(0, 0, far, 5), OUTSIDE);
            }
            due("27: from where it wraps", x.things(0, 0, Integer.MAX_VALUE - 2, 2), OUTSIDE);
            due("27: none came", x.count(0), 0);
        }
    }

    // -12: what stood ahead came
    private static void thingsWhatStoodAheadCame() {
        for (int size = 0; size <= 14; size++) {
            PutOut x = new PutOut();
            x.sheet(0, 1, size);
            due("27: five of " + size, x.things(0, 1, 0, 5), OUTSIDE);
            due("27: how many came", x.count(0), size / 3);
        }
        PutOut y = new PutOut();
        row(y, 0, 2, 34, 1, 5, 67);
        due("27: a third number is outside", y.things(0, 2, 0, 2), OUTSIDE);
        due("27: one came", y.count(0), 1);
        due("27: its NUMBER", y.told(0, 1), 3);
        PutOut z = new PutOut();
        row(z, 0, 9, 9, 9, 9);
        due("27: outside behind what is left out", z.things(0, 2, 0, 2), OUTSIDE);
        due("27: none came", z.count(0), 0);
    }

    // from one on, three by three (as of thing())
    private static void thingsThreeByThree() {
        int[] numbers = {9, 0, 5, 0, 1, 10, 1, 2, 21, 2, 3, 32, 3, 4, 43, 0};
        for (int sort = 0; sort < 3; sort++) {
            PutOut x = new PutOut();
            rowOf(x, 3, sort, numbers);
            due("27: five", x.things(3, sort, 1, 5), 5);
            for (int t = 0; t < 5; t++) {
                due("27: KIND", x.told(t, 0), numbers[1 + 3 * t]);
                due("27: NUMBER", x.told(t, 1), numbers[2 + 3 * t] / 10);
                due("27: LOOK", x.told(t, 3), numbers[2 + 3 * t] % 10);
                due("27: GIVER", x.told(t, 2), numbers[3 + 3 * t]);
                due("27: nowhere", x.told(t, 4), NONE);
            }
        }
        PutOut y = new PutOut();
        y.sheet(0, 2, 40);
        due("27: the last of 40", y.things(0, 2, 37, 1), 1);
        due("27: behind the last of 40", y.things(0, 2, 38, 1), OUTSIDE);
    }

    // (others are left out)
    private static void thingsLeftOut() {
        int[][] wrong = {{-1, 0, 0}, {6, 0, 0}, {0, -1, 0}, {0, 100, 0}, {0, 0, -1}, {0, 0, 4}};
        for (int[] w : wrong) {
            PutOut x = new PutOut();
            row(x, 0, w[0], w[1], w[2], 5, 99, 3, w[0], w[1], w[2], 0, 0, 0);
            due("27: two of four", x.things(0, 2, 0, 4), 2);
            due("27: how many", x.count(0), 2);
            due("27: the first one", x.told(0, 0), 5);
            due("27: the second one", x.told(1, 0), 0);
            due("27: none of one", x.things(0, 2, 0, 1), 0);
        }
    }

    private static void thingsWithoutRoom() {
        PutOut x = new PutOut();
        x.sheet(0, 0, 15);
        x.thing(0, 0, 0);
        x.thing(0, 0, 0);
        due("27: three have room", x.things(0, 0, 0, 5), 3);
        due("27: none has room", x.things(0, 0, 0, 5), 0);
        due("27: no room, outside", x.things(0, 0, 1, 5), OUTSIDE);
        due("27: five", x.count(0), 5);
    }

    // 28: BAD: k; -11: no such THING; -13.
    private static void takenIsBad() {
        PutOut x = new PutOut();
        x.thing(5, 70, 0);
        due("28: k -1", x.taken(0, -1), BAD);
        due("28: k 6", x.taken(0, 6), BAD);
        due("28: k -1, no THING", x.taken(1, -1), BAD);
        due("28: k 6, no THING", x.taken(-1, 6), BAD);
        for (int far : FAR) {
            due("28: k " + far, x.taken(0, far), BAD);
            due("28: THING " + far, x.taken(far, 0), MISSING);
        }
    }

    private static void takenMissingAheadOfUnlike() {
        PutOut x = new PutOut();
        for (int k = 0; k < 6; k++) {
            due("28: no THING 0", x.taken(0, k), MISSING);
        }
        x.thing(0, 70, 0);
        due("28: THING 0", x.taken(0, 0), 7);
        due("28: another KIND", x.taken(0, 1), UNLIKE);
        due("28: no THING 1", x.taken(1, 1), MISSING);
        due("28: no THING -1", x.taken(-1, 1), MISSING);
    }

    // one of KIND k (0 .. 5), or one under that one (also by others between)
    private static void takenForKindsAbove() {
        String[] above = {"100000", "110000", "101000", "110100", "101010", "100001"};
        for (int kind = 0; kind < 6; kind++) {
            PutOut x = new PutOut();
            x.thing(kind, 10 * kind + 9, 2);
            for (int k = 0; k < 6; k++) {
                boolean is = above[kind].charAt(k) == '1';
                due("28: KIND " + kind + " for " + k, x.taken(0, k), is ? kind : UNLIKE);
            }
        }
    }

    // its NUMBER
    private static void takenAnswersTheNumberOfNow() {
        PutOut x = new PutOut();
        x.thing(3, 45, 2);
        due("28: as it came", x.taken(0, 1), 4);
        x.set(3, 0, 0);
        due("28: 0", x.taken(0, 1), 0);
        x.set(3, 0, 9);
        due("28: 9", x.taken(0, 3), 9);
        due("28: LOOK is none", x.told(0, 3), 5);
        due("28: it changes nothing", x.told(0, 1), 9);
    }
}
