/** Head 4 of the document, and promises 21 to 27: each sentence that names a boundary case, on both sides of it. */
public final class BoundariesOfTextsTest {
    private static void says(String place, String sentence, String run) {
        Runs.says(place, sentence, run);
    }

    /** The bytes of a text, how it is told or where its FAULT is, each on a new object. */
    private static void reads(String sentence, Object... textsAndAnswers) {
        for (int i = 0; i < textsAndAnswers.length; i += 2) {
            int answer = (Integer) textsAndAnswers[i + 1];
            says("4", sentence, "text \"" + textsAndAnswers[i] + "\" = " + (answer < 0 ? "FAULT " + ~answer : answer) + "; count(6) = 0; count(4) = " + (answer < 0 ? 0 : 1));
        }
    }

    /** Of reads: a FAULT at this place. */
    private static int at(int place) {
        return ~place;
    }

    private static void gives(String sentence, Object... textsAndValues) {
        for (int i = 0; i < textsAndValues.length; i += 2) {
            says("4", sentence, "text \"fee " + textsAndValues[i] + "\" = 0; fee() = " + textsAndValues[i + 1]);
        }
    }

    private static void manyTexts() {
        says("4", "TEXTS, 14 at most, numbered from 0", """
            count(4) = 0; textTold(0, 0) = BAD
            text "fee 1" = 0; count(4) = 1; textTold(0, 0) = 1; textTold(1, 0) = BAD
            12 * text "fee 2"
            count(4) = 13; text "fine 3" = 13; count(4) = 14; why(2) = 13; textTold(13, 0) = 2; textTold(14, 0) = BAD
            text "push 4" = FULL; count(4) = 14; why(0) = NONE; textTold(14, 0) = BAD; text "fee 5" = FULL; fee() = 2; why(1) = 12
            """);
        says("25", "THE TAPE is a TEXT: its number. -100 less the place of its FAULT; FULL.", """
            text() = -100; text "#" = -100; text " #" = -101; text "fee" = -103; text "fine 1" = 0; text "fee 1 1" = -106
            13 * text "fee 1"
            text "fee 1" = FULL; text "fee 1 1" = -106; text() = -100; text "fee" = -103
            """);
        says("39", "AN IMAGE is kept", """
            # with thirteen TEXTS: there is room for one more, each time
            13 * text "fee 1"
            keep() = 0; text "fee 2" = 13; text "fee 3" = FULL; back() = 0; count(4) = 13; textTold(13, 0) = BAD; fee() = 1
            text "push 4" = 13; why(0) = 13; text "fee 5" = FULL; back(); why(0) = NONE; why(1) = 12
            """);
    }

    private static void theTape() {
        says("4", "THE TAPE (96 bytes at most; an act that reads it uses it up, whatever it answers)", """
            8 * feed(0, 0, 0)
            count(6) = 96; feed(0, 0, 0) = FULL; count(6) = 96; text() = FAULT 0; count(6) = 0; text() = FAULT 0; count(6) = 0
            feed(0, 0, 0) = 12; text "fee 1" = FAULT 0; count(6) = 0; text "fee 1" = 0; count(6) = 0; text() = FAULT 0
            """);
        says("4", "96 bytes at most", """
            # all 96 of them count: the last one is a piece, a blank, or a sign, or the end is right behind it
            text "fee ONES 1" = 0; fee() = 46; textTold(0, 1) = 46
            text "fee ONES21" = 1; fee() = 66; text "fee ONES1 " = 2; fee() = 46
            text "fee ONES1+" = FAULT 96; text "fee ONES1#" = FAULT 95; text "fee ONES!(" = FAULT 96
            text "BLANKS#" = FAULT 95; text "BLANKS " = FAULT 96; text "BLANKS1" = FAULT 95
            """.replace("ONES", "1+".repeat(45)).replace("BLANKS", " ".repeat(95)));
        feedAndTrim();
    }

    private static void feedAndTrim() {
        says("23", "Twelve bytes come to THE TAPE, the highest of each number first: how many it has", """
            # 'fee ', '1234', blanks
            feed(0x66656520, 0x31323334, 0x20202020) = 12; text() = 0; fee() = 1234
            feed(0x66656520, 0x31323320, 0x20202020) = 12; feed(0x2b342020, 0x20202020, 0x20202020) = 24; text() = 1; fee() = 127
            feed(-1, -1, -1) = 12; text() = FAULT 0; feed(0x66656520, 0x310000ff, 0) = 12; text() = FAULT 5; feed(0x66656520, 0x31202080, 0) = 12; text() = FAULT 7
            feed(0x20202020, 0x20202020, 0x66656531) = 12; text() = FAULT 11; feed(LOW, 0, 0) = 12; text() = FAULT 0; feed(HIGH, HIGH, HIGH) = 12; text() = FAULT 0
            """);
        says("23", "FULL: it would have more than 96", """
            7 * feed(0x20202020, 0x20202020, 0x20202020)
            count(6) = 84; feed(0x20202020, 0x20202020, 0x20202020) = 96; feed(0, 0, 0) = FULL; trim(85) = 85; feed(0, 0, 0) = FULL; count(6) = 85
            trim(84) = 84; feed(0x66656520, 0x31000000, 0) = 96; text() = FAULT 89
            8 * feed(0, 0, 0)
            trim(90) = 90; feed(0, 0, 0) = FULL; trim(0) = 0; feed(0, 0, 0) = 12
            """);
        says("24", "THE TAPE keeps its first n bytes: n", """
            trim(0) = 0; trim(1) = BAD; trim(-1) = BAD
            feed(0x66656520, 0x31323334, 0x20202020); trim(13) = BAD; trim(12) = 12; trim(8) = 8; count(6) = 8; trim(9) = BAD; trim(6) = 6; trim(-1) = BAD; trim(LOW) = BAD; trim(HIGH) = BAD
            text() = 0; fee() = 12
            # what comes then comes behind what is kept
            feed(0x66656520, 0x31323334, 0x20202020); trim(5) = 5; feed(0x31323334, 0x20202020, 0x20202020) = 17; text() = FAULT 4
            feed(0x66656520, 0x31323334, 0x20202020); trim(4) = 4; feed(0x35363720, 0x20202020, 0x20202020) = 16; text() = 1; fee() = 567
            feed(0x66656520, 0x31323334, 0x20202020); trim(0) = 0; text() = FAULT 0
            """);
    }

    private static void keys() {
        reads("KEY E. KEY: push | fee | fine", "push 1", 0, "fee 1", 0, "fine 1", 0, "pus 1", at(0), "pushs 1", at(0), "fe 1", at(0), "feee 1", at(0), "fin 1", at(0),
            "fines 1", at(0), "p 1", at(0), "f 1", at(0), "Push 1", at(0), "FEE 1", at(0), "finE 1", at(0), "pu sh 1", at(0), "w", at(0), "1", at(0), "(push 1)", at(0),
            "!fee 1", at(0), "push", at(4), "fee", at(3), "fine", at(4), "push push 1", at(5), "fee fee", at(4), "fee 1 fee 1", at(6), "push 1 2", at(7));
        says("26", "what 0 KEY (0 push, 1 fee, 2 fine), 1 how many NUMBERS and NAMES it has", """
            text "push 1" = 0; text "fee r*r-7" = 1; text "fine !(c+(p))/!!0" = 2
            textTold(0, 0) = 0; textTold(1, 0) = 1; textTold(2, 0) = 2; textTold(0, 1) = 1; textTold(1, 1) = 3; textTold(2, 1) = 3
            textTold(3, 0) = BAD; textTold(-1, 0) = BAD; textTold(0, 2) = BAD; textTold(0, -1) = BAD
            """);
        says("27", "The TEXT that counts for a KEY. BAD; NONE.", """
            why(0) = NONE; why(1) = NONE; why(2) = NONE; why(-1) = BAD; why(3) = BAD
            text "fine 1"; why(0) = NONE; why(1) = NONE; why(2) = 0; text "push 1"; why(0) = 1; why(1) = NONE; text "fee 1"; why(1) = 2; why(2) = 0
            """);
        says("4", "Of a KEY that TEXT counts that was told last", """
            house(0, 1, 1, 0); text "fee 5" = 0; text "push 6" = 1; text "fine 7" = 2; fee() = 5; told(0, 7) = 6; fine(0) = 7
            text "fee 8" = 3; fee() = 8; why(1) = 3; told(0, 7) = 6; text "push 9" = 4; told(0, 7) = 9; text "fine 4" = 5; fine(0) = 4
            # one with a FAULT was none
            text "fee 3+" = FAULT 6; fee() = 8; why(1) = 3; text "push" = FAULT 4; told(0, 7) = 9; text "fine ww" = FAULT 5; fine(0) = 4
            # nor is one that an IMAGE does not have
            keep(); text "fee 2" = 6; fee() = 2; back(); fee() = 8; why(1) = 3; count(4) = 6; text "fee 1" = 6; fee() = 1
            """);
    }

    private static void loosestFirst() {
        String said = "E, the loosest first: OR: AND { | AND }; AND: TEST { & TEST }; TEST: SUM [ (< | = | >) SUM ]; SUM: TERM { (+ | -) TERM }; TERM: PIECE { (* | /) PIECE }";
        gives(said, "1|0&0", 1, "0&0|1", 1, "(1|0)&0", 0, "0&(0|1)", 0, "2&2=2", 1, "2=2&2", 1, "(2&2)=2", 0, "1|1=2", 1, "(1|1)=2", 0, "0=1|1", 1, "0=(1|1)", 0,
            "1<1+1", 1, "(1<1)+1", 1, "3-1<1", 0, "3-(1<1)", 3, "2>1+1", 0, "(2>1)+1", 2, "1+1=2", 1, "1+(1=2)", 1, "2+3*4", 14, "(2+3)*4", 20, "2*3+4", 10, "2*(3+4)", 14,
            "9-8/4", 7, "(9-8)/4", 0, "8/4-1", 1, "8/(4-1)", 2, "0*0|1", 1, "0*(0|1)", 0, "1&1+1", 1, "1+1&1", 1, "1+(1&1)", 2);
        gives(said, "9-4-3", 2, "9-(4-3)", 8, "9-4+3", 8, "9-(4+3)", 2, "9+4-3", 10, "64/8/2", 4, "64/(8/2)", 16, "7/2*2", 6, "7/(2*2)", 1, "2*7/4", 3, "2*(7/4)", 2, "0|0|1", 1,
            "0|1|0", 1, "1|0|0", 1, "0|0|0", 0, "1&1&0", 0, "1&0&1", 0, "0&1&1", 0, "2&3&4", 1, "1-1-1-1", -2, "2*2*2*2", 16);
        reads("TEST: SUM [ (< | = | >) SUM ]", "fee 1<2", 0, "fee 1<2<3", at(7), "fee 1=2=3", at(7), "fee 1>2>3", at(7), "fee 1<2=3", at(7), "fee 1=2>3", at(7), "fee (1<2)<3", 0, "fee 1<(2<3)", 0,
            "fee 1<2&2<3", 0, "fee 1<2|2<3&3<4", 0, "fee 1<2&2<3<4", at(11), "fee 1<=2", at(6), "fee 1>=2", at(6), "fee 1==2", at(6), "fee 1<>2", at(6), "fee <1", at(4), "fee 1<", at(6),
            "fee 1<2)", at(7), "fee (1<2<3)", at(8));
        reads("OR: AND { | AND }; AND: TEST { & TEST }", "fee 1||2", at(6), "fee 1&&2", at(6), "fee 1|&2", at(6), "fee |1", at(4), "fee &1", at(4), "fee 1|", at(6), "fee 1&", at(6), "fee 1|2|3|4|5", 0, "fee 1&2&3&4&5", 0);
        reads("SUM: TERM { (+ | -) TERM }; TERM: PIECE { (* | /) PIECE }", "fee +1", at(4), "fee -1", at(4), "fee 1+-2", at(6), "fee 1--2", at(6), "fee 1*-2", at(6), "fee 1**2", at(6), "fee 1//2", at(6), "fee *1", at(4),
            "fee /1", at(4), "fee 1*", at(6), "fee 1/", at(6), "fee 1-", at(6), "fee 1+", at(6), "fee (-1)", at(5), "fee 1%252", at(5), "fee 1^2", at(5));
    }

    private static void pieces() {
        reads("NUMBER (1 to 4 digits)", "fee 0", 0, "fee 9", 0, "fee 10", 0, "fee 999", 0, "fee 9999", 0, "fee 0000", 0, "fee 10000", at(4), "fee 00000", at(4), "fee 00001", at(4), "fee 123456789", at(4), "fee 1+10000", at(6),
            "fee 1 + 10000", at(8), "fee 10000 +", at(4), "fee (99999)", at(5), "fee !99999", at(5), "fee 9999+9999", 0);
        gives("NUMBER (1 to 4 digits)", "0", 0, "9", 9, "10", 10, "0010", 10, "0009", 9, "999", 999, "1000", 1000, "9999", 9999, "0000", 0, "12+0012", 24);
        reads("NAMES, each one letter: of push w WEIGHT, l LEAN without its sign, c CRACK; of fee r RENT, d THE DAY", "push w", 0, "push l", 0, "push c", 0, "push r", at(5), "push d", at(5), "push p", at(5),
            "fee r", 0, "fee d", 0, "fee w", at(4), "fee l", at(4), "fee c", at(4), "fee p", at(4), "fine c", 0, "fine p", 0, "fine w", at(5), "fine l", at(5), "fine r", at(5), "fine d", at(5),
            "push ww", at(5), "push wl", at(5), "push w l", at(7), "push x", at(5), "push W", at(5), "push C", at(5), "fee rd", at(4), "fine cp", at(5), "push w+wl", at(7), "push w+c+d", at(9));
        says("4", "of push w WEIGHT, l LEAN without its sign, c CRACK", """
            house(0, 99, -50, 0); text "push w"; told(0, 7) = 99; set(0, 1, 1); told(0, 7) = 1
            text "push l"; told(0, 7) = 50; set(0, 2, -1); told(0, 7) = 1; set(0, 2, 0); told(0, 7) = 0; set(0, 2, 1); told(0, 7) = 1; set(0, 2, 50); told(0, 7) = 50
            text "push c"; told(0, 7) = 0; set(0, 4, 999); told(0, 7) = 999; set(0, 4, 1); told(0, 7) = 1
            """);
        says("4", "of fee r RENT, d THE DAY (what fee gives is told by fee(); without a TEXT: RENT)", """
            house(5, 1, 0, 0); set(0, 5, 9); fee() = 0; days(3); fee() = 27; text "fee d"; fee() = 3; text "fee r"; fee() = 27; text "fee r-d*10"; fee() = -3
            text "fee d=3"; fee() = 1; days(1); fee() = 0; text "fee 0"; fee() = 0
            # held within nothing
            text "fee 0-9999"; fee() = -9999; text "fee 9999*9999"; fee() = 99980001
            """);
        says("4", "of fine c CRACK, p PROP (what fine gives for a HOUSE is told by fine(); without a TEXT: CRACK)", """
            house(5, 1, 0, 0); house(5, 1, 0, 0); fine(0) = 0; set(0, 4, 999); fine(0) = 999; fine(1) = 0; fine(2) = BAD; fine(-1) = BAD
            set(0, 5, 9); text "fine p"; fine(0) = 9; fine(1) = 0; text "fine c"; fine(0) = 999; fine(1) = 0; text "fine c*10-p"; fine(0) = 9981
            # of one that is FALLEN too
            fells(0); fine(0) = 9990; text "fine 0-7"; fine(0) = -7; fine(1) = -7; fine(2) = BAD
            """);
        reads("| ! PIECE | ( E )", "fee !1", 0, "fee !!1", 0, "fee ! ! 1", 0, "fee !(1)", 0, "fee (!1)", 0, "fee !", at(5), "fee !+1", at(5), "fee !)", at(5), "fee 1!", at(5), "fee 1!1", at(5), "fee !1!", at(6), "fee ()", at(5), "fee (", at(5), "fee (1", at(6),
            "fee (1 ", at(7), "fee 1)", at(5), "fee (1))", at(7), "fee )", at(4), "fee )1(", at(4), "fee (1)(2)", at(7), "fee (1)2", at(7), "fee 1(2)", at(5), "fee ((1)", at(8), "fee (1+)", at(7), "fee (+1)", at(5), "fee [1]", at(4), "fee (1]", at(6));
        gives("| ! PIECE | ( E )", "!0", 1, "!1", 0, "!7", 0, "!(0-1)", 0, "!0+5", 6, "!0*5", 5, "!5*0", 0, "!(5*0)", 1, "!0=1", 1, "!(0=1)", 1, "!1=1", 0, "!(1=0)|5", 1, "!!7", 1, "!!0", 0, "!!!0", 1, "0-!0", -1, "((((7))))", 7);
    }

    private static void wordsAndSigns() {
        String said = "A word is a row of letters a .. z, or of digits, as long as it goes; any other byte is a sign by itself";
        // the bytes right beyond a, z, 0 and 9, behind a word: were they of the word, it would be at fault from its beginning
        reads(said, "fee%60 1", at(3), "fee%7b 1", at(3), "fee%41 1", at(3), "fee%5a 1", at(3), "feea 1", at(0), "feez 1", at(0), "fee r%60", at(5), "fee r%7b", at(5), "fee ra", at(4), "fee rz", at(4),
            "fee 1%2f", at(6), "fee 1%2f%2f", at(6), "fee 1%3a", at(5), "fee 12340", at(4), "fee 12349", at(4), "fee 1234%3a", at(8), "fee 1234%2f", at(9), "fee 1234%2e", at(8),
            "fee %00", at(4), "fee %01", at(4), "fee %1f", at(4), "fee %21", at(5), "fee %7f", at(4), "fee %80", at(4), "fee %a0", at(4), "fee %ff", at(4), "fee r%00", at(5), "fee r%ff", at(5), "fee 1%ff", at(5), "%fffee 1", at(0), "%00fee 1", at(0), "fee%00 1", at(3));
        reads("Between words and signs, and at the ends, there may be blanks (byte 32)", " fee 1", 0, "fee 1 ", 0, "   fee   1   ", 0, "fee ( 1 + r ) * ! d", 0, "fee(1+r)*!d", 0, "fee !1", 0, "fee!1", 0, "fee(1)", 0, "fee (1)", 0, "fee 1 < 2", 0,
            "fe e 1", at(0), "fee 1 2", at(6), "fee 1 r", at(6), "fee r d", at(6), "fee%091", at(3), "fee 1%09", at(5), "fee 1%0a", at(5), "%09fee 1", at(0), "fee 1%0d", at(5), "fee%a01", at(3), "fee%1f1", at(3), "fee 1 %00", at(6));
        reads("a word right behind another one needs one", "fee1", at(3), "push1", at(4), "fine0", at(4), "fee 1r", at(5), "fee r1", at(5), "fee 1", 0, "fee  1", 0, "feer", at(0), "fee r", 0, "fee (1)", 0, "push9+1", at(4), "fee99999", at(3), "fee 11111r", at(4));
    }

    private static void faults() {
        reads("the first byte of the first word or sign with which no TEXT goes on", "fee  99 +  zz * #", at(11), "fee  99 +  r * #", at(15), "fee # #", at(4), "  fees", at(2), "  fee  push", at(7), "fee (1 + 2 3)", at(11), "x", at(0), " x", at(1));
        reads("the end (the place behind the last byte), if it comes too soon", "", at(0), " ", at(1), "     ", at(5), "fee", at(3), "fee ", at(4), "fee    ", at(7), "fee 1+", at(6), "fee 1+ ", at(7), "fee !", at(5), "fee (1", at(6), "fee (1  ", at(8), "fee 1 <", at(7), "fee (((", at(7));
        String open = "((((((((", shut = "))))))))", nots = "!!!!!!!!";
        String said = "the ninth ( that would be open within others";
        reads(said, "fee " + open + "1" + shut, 0, "fee (" + open + "1" + shut + ")", at(12), "fee " + open + " (", at(13), "fee " + open, at(12), "fee " + open.substring(1), at(11), "fee " + open + "1" + shut + "+" + open + "1" + shut, 0,
            "fee " + open + "1" + shut + "+" + open + "(1" + shut + ")", at(30), "fee " + "(1)+".repeat(9) + "1", 0, "fee " + open + "1)+(1" + shut, 0, "fee " + open + "1)+((1))" + shut.substring(1), at(16), "fee " + open + "1)+(1)" + shut.substring(1), 0, "fee 1(" , at(5));
        said = "the ninth ! likewise, each by itself";
        reads(said, "fee " + nots + "1", 0, "fee !" + nots + "1", at(12), "fee " + nots + " !", at(13), "fee " + nots, at(12), "fee " + nots.substring(1), at(11), "fee " + nots + "1+" + nots + "1", 0, "fee " + nots + "1*!" + nots + "1", at(22), "fee " + "!1+".repeat(9) + "1", 0,
            "fee " + nots + open + "1" + shut, 0, "fee " + open + nots + "1" + shut, 0, "fee " + "!(".repeat(8) + "1" + shut, 0, "fee " + "!(".repeat(8) + "!1" + shut, at(20), "fee " + "!(".repeat(8) + "(1)" + shut, at(20), "fee " + nots + "(1)*" + nots + "1", 0,
            "fee " + nots + "(1+!1)", at(15), "fee " + nots.substring(1) + "(1+!1*!1)", 0, "fee " + nots.substring(1) + "(1)+" + nots + "1", 0);
        gives(said, nots + "7", 1, nots + "0", 0, nots.substring(1) + "7", 0, nots.substring(1) + "0", 1, open + "7" + shut, 7, "!(".repeat(8) + "7" + shut, 1);
    }

    private static void values() {
        gives("Ints wrap", "9999*9999*21", 2099580021, "9999*9999*22", 99980001 * 22, "0-9999*9999*22", -(99980001 * 22), "8192*4096*64-1", Integer.MAX_VALUE, "8192*4096*64", Integer.MIN_VALUE, "8192*4096*64-1+1", Integer.MIN_VALUE,
            "0-8192*4096*64", Integer.MIN_VALUE, "0-8192*4096*64-1", Integer.MAX_VALUE, "8192*4096*64*2", 0, "8192*4096*64/(0-1)", Integer.MIN_VALUE, "8192*4096*64/(0-2)", 1 << 30, "8192*4096*64<0", 1, "8192*4096*64-1>0", 1);
        gives("/ is 0 by 0", "5/0", 0, "0/0", 0, "(0-5)/0", 0, "5/(1-1)", 0, "5/0+3", 3, "8192*4096*64/0", 0, "6/1", 6, "6/(0-1)", -6, "7/2", 3, "(0-7)/2", -3, "7/(0-2)", -3, "(0-7)/(0-2)", 3, "1/2", 0, "(0-1)/2", 0);
        gives("tests, & | ! give 1 or 0 (what is not 0 is true; both sides are worked out)", "1<2", 1, "2<2", 0, "3<2", 0, "1=2", 0, "2=2", 1, "3=2", 0, "1>2", 0, "2>2", 0, "3>2", 1, "(0-1)<0", 1, "0>(0-1)", 1, "5&7", 1, "5&0", 0, "0&5", 0, "0&0", 0,
            "(0-1)&(0-1)", 1, "2&1", 1, "5|7", 1, "5|0", 1, "0|5", 1, "0|0", 0, "(0-1)|0", 1, "0|(0-1)", 1, "!(0-1)", 0, "!9999", 0, "1|5/0", 1, "0&5/0", 0, "(3>2)+(2=2)+(5&7)+(4|0)+!0", 5, "8192*4096*64&1", 1, "8192*4096*128&1", 0);
        says("21", "What fee gives.", "fee() = 0; text \"fee r+d\" = 0; fee() = 0; days(100); fee() = 100; house(5, 1, 0, 0); set(0, 5, 1); days(1); fee() = 102");
    }

    public static void main(String[] args) {
        manyTexts();
        theTape();
        keys();
        loosestFirst();
        pieces();
        wordsAndSigns();
        faults();
        values();
        Runs.end("the texts hold at their boundaries");
    }
}
