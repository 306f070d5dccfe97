/** The edges of promises 6 to 8 and of what the Terms say of TEXTS and FAULTS: a test for each sentence. */
final class EdgesTextsTest extends Scene {
    private static final String[] WORDS = {"moves", "ugly", "minds", "or", "and", "not", "thing", "place", "giver",
        "guests", "look", "number"};

    public static void main(String[] args) {
        aByteIs0To255();
        theTapeHas160Bytes();
        theTapeHasRoomAgain();
        aTextOf160Bytes();
        endsTooEarly();
        endsTooEarlyAnywhere();
        bytesThatBeginATextAndMore();
        bytesBesideTheSigns();
        blanksMayStandBetween();
        tokensAreAsLongAsCanBe();
        wordsThatAreNoWords();
        wordsWhereTheyCanNotStand();
        numbersHaveFourDigits();
        threePartsInTheirOrder();
        nothingStandsBehind();
        onlyOneLessOrLike();
        notStandsAheadOfANot();
        oneIsWanted();
        fiveMayBeOpen();
        closedOnesAreNotOpen();
        minusBetweenIsNotOpen();
        theFirstFaultIsTold();
        wrapsAround();
        whatIsNot0IsTrue();
        bindsByItsLevel();
        theBoundsOfMoves();
        theBoundsOfUgly();
        theBoundsOfMinds();
        namesOfMoves();
        namesOfUgly();
        namesOfMinds();
        textZero();
        sixTextsAtMost();
        aFaultTakesNoRoom();
        fiveTextsOf160Bytes();
        fullIsAheadOfAll();
        forceIsBad();
        forceAnswersWhichWas();
        CHECKS.end();
    }

    private static void fault(String s, int place) {
        PutOut x = new PutOut();
        due("7: '" + s + "'", text(x, s), NONE_SUCH - place);
        due("7: THE TAPE is empty behind '" + s + "'", x.count(3), 0);
        due("7: no TEXT by '" + s + "'", x.count(2), 1);
    }

    private static void stands(String s) {
        PutOut x = new PutOut();
        due("7: '" + s + "'", text(x, s), 1);
        due("7: THE TAPE is empty behind '" + s + "'", x.count(3), 0);
        due("7: a TEXT by '" + s + "'", x.count(2), 2);
    }

    /** An E that stands as each of the three parts. */
    private static void standsAsE(String e) {
        stands("moves " + e + ";ugly 1;minds 1;");
        stands("moves 1;ugly " + e + ";minds 1;");
        stands("moves 1;ugly 1;minds " + e + ";");
    }

    /** An E with a FAULT at a place of its own, as each of the three parts. */
    private static void faultInE(String e, int place) {
        fault("moves " + e + ";ugly 1;minds 1;", 6 + place);
        fault("moves 1;ugly " + e + ";minds 1;", 13 + place);
        fault("moves 1;ugly 1;minds " + e + ";", 21 + place);
    }

    /** What moves tells of THING 1 (NUMBER 7, LOOK 4, GIVER 2) for PLACE 5. */
    private static void value(String e, int want) {
        PutOut x = by("moves " + e + ";ugly 0;minds 0;");
        x.thing(0, 0, 0);
        x.thing(0, 74, 2);
        due("7: " + e, x.put(1, 5), want);
    }

    private static String repeated(String s, int n) {
        return s.repeat(n);
    }

    // 6: A byte (0 .. 255) .. BAD; FULL.
    private static void aByteIs0To255() {
        PutOut x = new PutOut();
        due("6: -1", x.feed(-1), BAD);
        due("6: 256", x.feed(256), BAD);
        for (int far : FAR) {
            due("6: " + far, x.feed(far), BAD);
        }
        due("6: none came", x.count(3), 0);
        due("6: 0", x.feed(0), 1);
        due("6: 255", x.feed(255), 2);
        due("6: two", x.count(3), 2);
    }

    // THE TAPE (160 bytes at most)
    private static void theTapeHas160Bytes() {
        PutOut x = new PutOut();
        for (int i = 1; i <= 160; i++) {
            due("6: byte " + i, x.feed(' '), i);
        }
        due("6: FULL", x.feed(' '), FULL);
        due("6: BAD ahead of FULL", x.feed(256), BAD);
        due("6: BAD ahead of FULL", x.feed(-1), BAD);
        due("6: still 160", x.count(3), 160);
        due("7: it ends too early at 160", x.text(), -260);
    }

    private static void theTapeHasRoomAgain() {
        PutOut x = new PutOut();
        for (int i = 0; i < 2; i++) {
            feed(x, repeated("a", 160));
            due("6: FULL", x.feed('a'), FULL);
            due("7: a FAULT", x.text(), -100);
            due("6: the first one again", x.feed(' '), 1);
            due("7: it is gone", x.text(), -101);
        }
    }

    private static void aTextOf160Bytes() {
        String s = "moves 1;ugly 1;minds 1;";
        stands(s + repeated(" ", 160 - s.length()));
        stands(repeated("\n", 160 - s.length()) + s);
        stands("moves 1" + repeated("+1", 68) + ";ugly 1;minds 1;\n");
        fault(repeated(" ", 161 - s.length()) + s, 160);
        fault(s + repeated(" ", 159 - s.length()) + "x", 159);
    }

    // FAULT: .. (the text's size, if it ends too early)
    private static void endsTooEarly() {
        fault("", 0);
        fault(" ", 1);
        fault("moves", 5);
        fault("moves 1", 7);
        fault("moves 1;", 8);
        fault("moves 1;\n", 9);
        fault("moves (1", 8);
        fault("moves (1 ", 9);
        fault("moves -", 7);
        fault("moves not", 9);
        fault("moves 1<", 8);
        fault("moves 1;ugly 1;minds 1", 22);
        fault("moves 1;ugly 1;minds 1  ", 24);
    }

    private static void endsTooEarlyAnywhere() {
        String s = "moves not(1+2)*-place=3 and look<4 or 7;ugly number-giver;minds guests;";
        stands(s);
        for (int n = 0; n < s.length(); n++) {
            PutOut x = new PutOut();
            int at = n;
            // A word that is cut off is a word of its own; these are names or keys no more.
            while (at > 0 && Character.isLetter(s.charAt(at - 1)) && n < s.length() && Character.isLetter(s.charAt(n))) {
                at--;
            }
            due("7: '" + s.substring(0, n) + "'", text(x, s.substring(0, n)), NONE_SUCH - at);
        }
    }

    /** What the byte b behind "moves 1" comes to: the place of the FAULT. */
    private static int faultBehind(int b) {
        boolean goesOn = b == ' ' || b == '\n' || b >= '0' && b <= '9' || b == ';' || b == '+' || b == '-' || b == '*'
                || b == '<' || b == '=';
        return goesOn ? 8 : 7;
    }

    // also of a byte that begins none
    private static void bytesThatBeginATextAndMore() {
        for (int b = 0; b < 256; b++) {
            PutOut x = new PutOut();
            x.feed(b);
            due("7: byte " + b + " alone", x.text(), b == ' ' || b == '\n' ? -101 : -100);
            feed(x, "moves 1");
            x.feed(b);
            due("7: byte " + b + " behind", x.text(), NONE_SUCH - faultBehind(b));
        }
    }

    private static void bytesBesideTheSigns() {
        int[] beside = {'a' - 1, 'z' + 1, '0' - 1, '9' + 1, 'A', 'Z', 9, 11, 13, 31, 33, 127, 128, 160, 255, 0, ',', '>'};
        for (int b : beside) {
            faultInE("" + (char) b, 0);
            faultInE("look" + (char) b, 4);
            faultInE("12" + (char) b + "3", 2);
        }
    }

    // blanks (32, 10) may stand between
    private static void blanksMayStandBetween() {
        stands("moves1;ugly1;minds1;");
        stands(" \n moves \n 1 \n ; \n ugly \n 1 \n ; \n minds \n 1 \n ; \n ");
        standsAsE("( \n 1 + \n- 2 )\n*\n3 < 4");
        faultInE("pl ace", 0);
        faultInE("1 2", 2);
        faultInE("1\n2", 2);
        faultInE("look look", 5);
        fault("mo ves 1;ugly 1;minds 1;", 0);
        fault("moves\t1;ugly 1;minds 1;", 5);
        fault("moves 1\r;ugly 1;minds 1;", 7);
    }

    // TOKENS, each as long as can be
    private static void tokensAreAsLongAsCanBe() {
        fault("movesplace;ugly 1;minds 1;", 0);
        faultInE("notlook", 0);
        faultInE("1 orlook", 2);
        faultInE("lookand 1", 0);
        standsAsE("1or 2and 3");
        standsAsE("1or2and3");
        standsAsE("not(look)or-look");
        faultInE("look1", 4);
        faultInE("1look", 1);
        value("12", 12);
    }

    // a WORD that is neither KEY nor NAME
    private static void wordsThatAreNoWords() {
        for (String word : WORDS) {
            faultInE(word + "s", 0);
            faultInE(word.substring(0, word.length() - 1), 0);
            faultInE(word.substring(1), 0);
            faultInE(word.substring(0, word.length() - 1) + "z", 0);
            faultInE("a" + word.substring(1), 0);
            faultInE(word + word, 0);
        }
        fault("move 1;ugly 1;minds 1;", 0);
        fault("movess 1;ugly 1;minds 1;", 0);
        fault("moves 1;uglx 1;minds 1;", 8);
        fault("moves 1;ugly 1;mind 1;", 15);
        faultInE(repeated("z", 80), 0);
        faultInE("1+x", 2);
        faultInE("1 x", 2);
    }

    private static void wordsWhereTheyCanNotStand() {
        String[] behind = {"or", "and"};
        for (String word : WORDS) {
            boolean isName = "thing place giver guests look number".contains(word);
            if (isName) {
                standsAsE(word);
                fault(word + " 1;ugly 1;minds 1;", 0);
            } else if (!word.equals("not")) {
                faultInE(word, 0);
                faultInE("1+" + word + " 1", 2);
            }
            if (!word.equals(behind[0]) && !word.equals(behind[1])) {
                faultInE("1 " + word + " 1", 2);
            }
        }
    }

    // NUMBERS (as many digits as stand there, 4 at most); FAULT: also of .. a NUMBER that is too long
    private static void numbersHaveFourDigits() {
        standsAsE("0");
        standsAsE("0000");
        standsAsE("9999");
        faultInE("00000", 0);
        faultInE("10000", 0);
        faultInE("99999", 0);
        faultInE("1+12345", 2);
        faultInE("1234 12345", 5);
        faultInE(repeated("7", 100), 0);
        faultInE("4294967297", 0);
        value("0007", 7);
        value("0099", 99);
        value("9999-9950", 49);
    }

    // TEXT: moves E ; ugly E ; minds E ;
    private static void threePartsInTheirOrder() {
        fault("ugly 1;minds 1;moves 1;", 0);
        fault("minds 1;", 0);
        fault("moves 1;minds 1;ugly 1;", 8);
        fault("moves 1;moves 1;", 8);
        fault("moves 1;ugly 1;ugly 1;", 15);
        fault("moves 1;ugly 1;moves 1;", 15);
        fault("moves 1 ugly 1;minds 1;", 8);
        fault("moves 1;ugly 1 minds 1;", 15);
        fault("moves ;ugly 1;minds 1;", 6);
        fault("moves 1;ugly ;minds 1;", 13);
        fault("moves 1;ugly 1;minds ;", 21);
        fault("1;ugly 1;minds 1;", 0);
        fault(";moves 1;ugly 1;minds 1;", 0);
        fault("moves 1;1;minds 1;", 8);
    }

    private static void nothingStandsBehind() {
        String s = "moves 1;ugly 1;minds 1;";
        stands(s);
        String[] more = {";", "1", "moves 1;", "or 1", "x", ")", "12345", "\t"};
        for (String m : more) {
            fault(s + m, s.length());
            fault(s + " \n" + m, s.length() + 2);
        }
    }

    // NOT: .. or SUM, perhaps < or = and a SUM
    private static void onlyOneLessOrLike() {
        String[] signs = {"<", "="};
        for (String a : signs) {
            standsAsE("1" + a + "2");
            standsAsE("(1" + a + "2)" + a + "3");
            faultInE(a + "1", 0);
            faultInE("1" + a, 2);
            for (String b : signs) {
                faultInE("1" + a + "2" + b + "3", 3);
                faultInE("1" + a + b + "3", 2);
                standsAsE("1" + a + "2 and 3" + b + "4");
            }
        }
    }

    // NOT: not NOT, ..
    private static void notStandsAheadOfANot() {
        standsAsE("not 1");
        standsAsE("not not 1<2");
        standsAsE("1 and not 2 or not 3");
        standsAsE("1+(not 2)");
        faultInE("1+not 2", 2);
        faultInE("2*not 2", 2);
        faultInE("1<not 2", 2);
        faultInE("-not 2", 1);
        faultInE("1 not 2", 2);
        faultInE("not", 3);
        faultInE("not or", 4);
    }

    // ONE: a NUMBER, a NAME, - ONE, ( E )
    private static void oneIsWanted() {
        String[] wrong = {")", ";", "+1", "*1", "<1", "=1", "or 1", "and 1"};
        for (String e : wrong) {
            faultInE(e, 0);
            faultInE("(" + e, 1);
            faultInE("-" + e, 1);
            faultInE("1+" + e, 2);
            faultInE("1-" + e, 2);
            faultInE("1*" + e, 2);
            faultInE("1<" + e, 2);
            faultInE("not " + e, 4);
            faultInE("1 or " + e, 5);
            faultInE("1 and " + e, 6);
        }
        faultInE("()", 1);
        faultInE("(1))", 3);
        faultInE("1(2)", 1);
        faultInE("(1 2)", 3);
        faultInE("(1;2)", 2);
        standsAsE("1--1");
        standsAsE("1*-1");
        standsAsE("1<-1");
        standsAsE("(1<2)+(not 3)*(4 or 5)");
    }

    // a ( , a not, a - ahead of a ONE while 5 of these are open
    private static void fiveMayBeOpen() {
        standsAsE("(((((1)))))");
        faultInE("((((((1))))))", 5);
        standsAsE("-----1");
        faultInE("------1", 5);
        standsAsE("not not not not not 1");
        faultInE("not not not not not not 1", 20);
        standsAsE("not(-(not 1))");
        standsAsE("not(-(not 1)+2)");
        standsAsE("not(-(not 1)<-(-2))");
        standsAsE("not -(-(1))");
        faultInE("not -(-(-1))", 8);
        faultInE("not not not not -(1)", 17);
        faultInE("not not not(-1+-(2))", 16);
        standsAsE("not not(-1+-2*-(3))");
        faultInE("not not(-1+-2*-(-3))", 16);
        faultInE("((((-(1)))))", 5);
        faultInE("(((((not 1)))))", 5);
        faultInE("(((((-1)))))", 5);
        faultInE("not not not not not(1)", 19);
        faultInE("-----(1)", 5);
        faultInE("not not not not not -1", 20);
    }

    // (a ( till its ) , not and - till what they belong to ends)
    private static void closedOnesAreNotOpen() {
        standsAsE("(((((1)))))+(((((2)))))*(((((3)))))");
        standsAsE("((((1))+(((1))))*(((1))))");
        standsAsE("-----1+-----2*-----3");
        standsAsE("-----1<-----2");
        standsAsE("not not not not not 1 and not not not not not 2 or not not not not not 3");
        standsAsE("-(1)+(((((1)))))");
        standsAsE("not 1 and (((((1)))))");
        standsAsE("not(1)or not not not not not 1");
        faultInE("not 1+(((((1)))))", 10);
        faultInE("not 1*(((((1)))))", 10);
        faultInE("not 1<(((((1)))))", 10);
        faultInE("not 1=-----1", 10);
        faultInE("-(((((1)))))", 5);
        standsAsE("-((((1))))");
        faultInE("(1+(((((1))))))", 7);
        faultInE("(1)+((((((1))))))", 9);
        faultInE("-1+------1", 8);
    }

    private static void minusBetweenIsNotOpen() {
        standsAsE("1------1");
        faultInE("1-------1", 7);
        standsAsE("(((((1-1-1)))))");
        value("1------1", 2);
        value("1-----1", 0);
    }

    // the place of the first byte of the first TOKEN that can't stand there
    private static void theFirstFaultIsTold() {
        fault("moves x;ugly y;minds z;", 6);
        fault("moves 1;ugly y;minds z;", 13);
        fault("moves 12345 look", 6);
        fault("moves ) 12345", 6);
        fault("moves 1 2 #", 8);
        fault("moves ((((((#", 11);
        fault("   moves \n   looks", 13);
        fault("\n\nzoo", 2);
    }

    /** An E that comes to an int. */
    private static String literal(int v) {
        if (v == Integer.MIN_VALUE) {
            return "(-" + literal(Integer.MAX_VALUE) + "-1)";
        }
        if (v < 0) {
            return "(-" + literal(-v) + ")";
        }
        return "((" + v / 9999 / 9999 + "*9999+" + v / 9999 % 9999 + ")*9999+" + v % 9999 + ")";
    }

    // An E is an int (32 bits, wrapping)
    private static void wrapsAround() {
        String max = literal(Integer.MAX_VALUE);
        value(max + "+1=-" + max + "-1", 1);
        value(max + "+1<0", 1);
        value("-" + max + "-2=" + max, 1);
        value("-(-" + max + "-1)=-" + max + "-1", 1);
        value("(-" + max + "-1)*-1<0", 1);
        value(max + "*" + max, 1);
        value(max + "*2+9", 7);
        value("0<" + max + "-(-1)", 0);
        value("9999*9999*9999=" + literal(9999 * 9999 * 9999), 1);
        value("9999*9999*9999*9999=" + literal(9999 * 9999 * 9999 * 9999), 1);
        value("-9999*9999*22=" + literal(-9999 * 9999 * 22), 1);
        value("8192*8192*64", 0);
        value("8192*8192*64+5", 5);
        value("8192*8192*32<0", 1);
        value("8192*8192*16*2+" + max + "=-1", 1);
    }

    // of or, and, not, <, = 1 or 0 (what is not 0 is true)
    private static void whatIsNot0IsTrue() {
        String[] trueOnes = {"1", "2", "9999", "-1", "-7", "(8192*8192*32)"};
        for (String t : trueOnes) {
            value(t + " or 0", 1);
            value("0 or " + t, 1);
            value(t + " or " + t, 1);
            value(t + " and 0", 0);
            value("0 and " + t, 0);
            value(t + " and " + t, 1);
            value(t + " and 2", 1);
            value("not " + t, 0);
            value("not not " + t, 1);
        }
        value("0 or 0", 0);
        value("0 and 0", 0);
        value("not 0", 1);
        value("8192*8192*64 or 0", 0);
        value("not 8192*8192*64", 1);
        value("3<3", 0);
        value("2<3", 1);
        value("-3<-2", 1);
        value("3=3", 1);
        value("-3=3", 0);
        value("7", 7);
        value("(7)", 7);
        value("--7", 7);
    }

    // E: AND { or AND }. AND: NOT { and NOT }. .. SUM: TERM { + or - TERM }. TERM: ONE { * ONE }.
    private static void bindsByItsLevel() {
        value("1 or 1 and 0", 1);
        value("0 and 1 or 1", 1);
        value("0 and (1 or 1)", 0);
        value("not 1 or 1", 1);
        value("not (1 or 1)", 0);
        value("not 1 and 0", 0);
        value("not 2=3", 1);
        value("not 0+1", 0);
        value("1<2 and 2<1", 0);
        value("1+1=2", 1);
        value("2=1+1", 1);
        value("20-5-3", 12);
        value("20-5+3", 18);
        value("20-(5+3)", 12);
        value("2+3*4", 14);
        value("2*3+4*5", 26);
        value("20-2*3", 14);
        value("-2*-3", 6);
        value("-2+9", 7);
        value("2*-3+9", 3);
        value("2-(-3)", 5);
        value("(3<2)=0", 1);
        value("(1<2)+(1<3)+(1<4)", 3);
    }

    // moves: .. (0 .. 99, else the bound)
    private static void theBoundsOfMoves() {
        String[] e = {"0", "99", "100", "98", "-1", "1", "9999", literal(Integer.MAX_VALUE), literal(Integer.MIN_VALUE)};
        int[] want = {0, 99, 99, 98, 0, 1, 99, 99, 0};
        for (int i = 0; i < e.length; i++) {
            PutOut x = by("moves " + e[i] + ";ugly 0;minds 0;");
            x.thing(0, 0, 0);
            due("4: moves " + e[i], x.put(0, 1), want[i]);
            PutOut y = by("moves " + e[i] + ";ugly 0;minds 99;");
            y.thing(2, 0, 0);
            due("10: moves " + e[i], y.best(1, 1, NONE), want[i]);
        }
    }

    private static void theBoundsOfUgly() {
        String[] e = {"0", "99", "100", "98", "-1", "1", "9999", literal(Integer.MAX_VALUE), literal(Integer.MIN_VALUE)};
        int[] want = {0, 99, 99, 98, 0, 1, 99, 99, 0};
        for (int i = 0; i < e.length; i++) {
            PutOut x = by("moves 0;ugly " + e[i] + ";minds 0;");
            x.thing(0, 0, 0);
            due("9: nowhere", x.day(0, 0), 0);
            x.put(0, 1);
            due("9: ugly " + e[i], x.day(0, 0), want[i]);
            due("10: ugly " + e[i], x.best(0, 0, NONE), want[i]);
        }
    }

    private static void theBoundsOfMinds() {
        String[] e = {"0", "99", "100", "98", "-1", "1", "9999", literal(Integer.MAX_VALUE), literal(Integer.MIN_VALUE)};
        int[] want = {0, 99, 99, 98, 0, 1, 99, 99, 0};
        for (int i = 0; i < e.length; i++) {
            PutOut x = by("moves 0;ugly 0;minds " + e[i] + ";");
            x.thing(4, 90, 0);
            // The bound is of minds, ahead of how many times.
            due("9: minds " + e[i], x.day(1, 0), 4 * want[i]);
            due("10: minds " + e[i], x.best(1, 0, NONE), 4 * want[i]);
        }
    }

    // place: of moves where it is to be PUT (6: nowhere); guests: .. (of moves, ugly 0)
    private static void namesOfMoves() {
        PutOut x = by("moves place+guests*50;ugly 0;minds 0;");
        x.thing(0, 0, 0);
        for (int p = 1; p < 6; p++) {
            due("4: to PLACE " + p, x.put(0, p), p);
        }
        due("4: nowhere", x.put(0, NONE), 6);
        due("4: to PLACE 0", x.put(0, 0), 0);
        x.put(0, 5);
        PutOut y = by("moves place+guests*50;ugly 90;minds 0;");
        y.thing(0, 0, 0);
        y.put(0, 5);
        due("10: BEST puts it nowhere for 6", y.best(15, 5, NONE), 6);
        names("moves");
    }

    // thing: its number; giver: its GIVER; look: LOOK; number: NUMBER
    private static void names(String part) {
        String[] parts = {"moves", "ugly", "minds"};
        String[] names = {"thing", "giver", "look", "number"};
        int[] want = {2, 3, 4, 5};
        for (int i = 0; i < names.length; i++) {
            StringBuilder rule = new StringBuilder();
            for (String p : parts) {
                rule.append(p).append(' ').append(p.equals(part) ? names[i] : "0").append(';');
            }
            PutOut x = by(rule.toString());
            x.thing(0, 0, 0);
            x.thing(0, 0, 0);
            x.thing(0, 54, 3);
            int got = part.equals("minds") ? x.day(8, 0) : x.put(2, 1);
            due("7: " + names[i] + " of " + part, part.equals("ugly") ? x.day(0, 0) : got, want[i]);
        }
    }

    // of ugly where it is
    private static void namesOfUgly() {
        for (int p = 0; p < 6; p++) {
            PutOut x = by("moves 9;ugly place*10+guests;minds 0;");
            x.thing(0, 0, 0);
            x.put(0, p);
            due("9: ugly on PLACE " + p, x.day(15, 0), 10 * p);
        }
        names("ugly");
    }

    // of minds 0; guests: how many are there
    private static void namesOfMinds() {
        PutOut x = by("moves 0;ugly 0;minds guests*20+place;");
        x.thing(0, 0, 0);
        int[] sets = {0, 1, 3, 11, 15, 14};
        int[] want = {0, 20, 40, 60, 80, 0};
        for (int i = 0; i < sets.length; i++) {
            due("9: minds of " + sets[i], x.day(sets[i], 0), want[i]);
        }
        x.put(0, 5);
        x.set(0, 5, 0);
        due("9: place is 0 though it is PUT", x.day(15, 0), 80);
        names("minds");
    }

    // TEXT 0, at first THE RULE, is: moves 1 ; ugly 9 - look ; minds 20 ;
    private static void textZero() {
        for (int look = 0; look < 10; look++) {
            PutOut x = new PutOut();
            x.thing(0, 90 + look, 3);
            due("8: minds 20", x.day(15, 0), 20);
            due("8: minds 20", x.day(8, 0), 20);
            due("8: moves 1", x.put(0, look % 6), 1);
            due("8: ugly by LOOK " + look, x.day(15, 0), 9 - look);
            due("8: moves 1, nowhere", x.put(0, NONE), 1);
        }
        due("8: THE RULE", new PutOut().count(4), 0);
        due("8: TEXT 0 is there", new PutOut().force(0), 0);
    }

    // There are 6 TEXTS at most, TEXT 0 with them
    private static void sixTextsAtMost() {
        PutOut x = new PutOut();
        for (int i = 1; i < 6; i++) {
            due("7: no TEXT " + i + " yet", x.force(i), BAD);
            due("7: TEXT " + i, text(x, "moves " + i + ";ugly 1;minds 1;"), i);
            due("23: TEXTS", x.count(2), i + 1);
        }
        due("7: FULL", text(x, "moves 6;ugly 1;minds 1;"), FULL);
        due("23: TEXTS", x.count(2), 6);
        due("8: no TEXT 6", x.force(6), BAD);
        x.thing(0, 0, 0);
        for (int i = 1; i < 6; i++) {
            x.force(i);
            due("8: TEXT " + i + " is as it was", x.put(0, i), i);
        }
        due("8: TEXT 5 was", x.force(0), 5);
    }

    private static void aFaultTakesNoRoom() {
        PutOut x = new PutOut();
        for (int i = 1; i < 6; i++) {
            due("7: a FAULT", text(x, "moves " + i + ";ugly 1;"), -115);
            due("7: no TEXT came", x.count(2), i);
            due("7: it isn't kept on THE TAPE", text(x, "minds 1;"), -100);
            due("7: TEXT " + i, text(x, "moves 1;ugly 1;minds 1;"), i);
        }
    }

    /** As large as can be, and so are the texts with a FAULT ahead of each: 0 .. 5 is what its parts tell. */
    private static void fiveTextsOf160Bytes() {
        PutOut x = new PutOut();
        for (int i = 1; i < 6; i++) {
            due("7: a FAULT", text(x, "moves 1" + repeated("+1", 76)), -259);
            due("7: a FAULT at 159", text(x, "moves 1;ugly 1;minds 1" + repeated("+1", 68) + ";)"), -259);
            String s = "moves " + i + repeated("+0", 20) + ";ugly " + i + repeated("+0", 20) + ";minds " + i;
            due("7: TEXT " + i, text(x, s + repeated("+0", 27) + repeated(" ", 3) + ";"), i);
        }
        x.thing(0, 0, 0);
        for (int i = 5; i > 0; i--) {
            x.force(i);
            due("8: moves of TEXT " + i, x.put(0, i), i);
            due("8: ugly of TEXT " + i, x.day(0, 0), i);
            x.put(0, NONE);
            due("8: minds of TEXT " + i, x.day(1, 0), i);
        }
    }

    // FULL (ahead of all): no TEXT more has room (THE TAPE stays).
    private static void fullIsAheadOfAll() {
        PutOut x = new PutOut();
        for (int i = 1; i < 6; i++) {
            text(x, "moves 1;ugly 1;minds 1;");
        }
        due("7: FULL, by an empty TAPE", x.text(), FULL);
        due("7: THE TAPE is empty", x.count(3), 0);
        due("7: FULL, by a FAULT", text(x, "moves"), FULL);
        due("7: THE TAPE stays", x.count(3), 5);
        due("7: again", x.text(), FULL);
        due("7: it stays", x.count(3), 5);
        due("6: behind what stayed", x.feed('x'), 6);
        due("23: TEXTS", x.count(2), 6);
    }

    // 8: BAD.
    private static void forceIsBad() {
        PutOut x = new PutOut();
        due("8: -1", x.force(-1), BAD);
        due("8: 1", x.force(1), BAD);
        for (int far : FAR) {
            due("8: " + far, x.force(far), BAD);
        }
        due("23: THE RULE stays", x.count(4), 0);
        text(x, "moves 1;ugly 1;minds 1;");
        due("8: 2", x.force(2), BAD);
        due("8: 1 is there", x.force(1), 0);
        due("8: 2 still isn't", x.force(2), BAD);
        due("23: THE RULE stays", x.count(4), 1);
    }

    // 8: A TEXT is THE RULE: which was.
    private static void forceAnswersWhichWas() {
        PutOut x = new PutOut();
        text(x, "moves 11;ugly 1;minds 1;");
        text(x, "moves 22;ugly 1;minds 1;");
        due("8: it isn't THE RULE by itself", x.count(4), 0);
        due("8: 0 was", x.force(2), 0);
        due("8: 2 was", x.force(2), 2);
        due("8: 2 was", x.force(1), 2);
        x.thing(0, 0, 0);
        due("8: TEXT 1 rules", x.put(0, 0), 11);
        due("8: 1 was", x.force(0), 1);
        due("8: TEXT 0 rules", x.put(0, 1), 1);
    }
}
