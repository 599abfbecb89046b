/** Head 5 of the document, and promises 28 to 41: each sentence that names a boundary case, on both sides of it. */
public final class BoundariesOfRowsTest {
    private static void says(String place, String sentence, String run) {
        Runs.says(place, sentence, run);
    }

    private static void sheets() {
        says("5", "SHEETS 0 .. 3 are rows of shorts (sort 0) or floats (1; whole numbers), with 0 to 24 places, or MISSING (at first)", """
            mark(0, 0, 0) = NOTHING; mark(3, 0, 0) = NOTHING; mark(4, 0, 0) = BAD; mark(-1, 0, 0) = BAD; reads(0) = NOTHING; reads(3) = NOTHING; pour(1) = NOTHING; lay(0, 2, 2) = NOTHING
            sheet(0, 0, 0) = 0; mark(0, 0, 0) = INDEX; sheet(3, 1, 0) = 0; mark(3, 0, 0) = INDEX; sheet(1, 0, 24) = 24; mark(1, 23, 1) = 1; mark(1, 24, 1) = INDEX; sheet(2, 1, 24) = 24; mark(2, 23, 1) = 1; mark(2, 24, 1) = INDEX
            sheet(1, 0, 25) = BAD; sheet(2, 1, 25) = BAD; sheet(1, 0, -1) = SIZE; sheet(2, 1, -1) = SIZE; sheet(1, 2, 1) = BAD; sheet(1, -2, 1) = BAD; mark(1, 23, 1) = 1; mark(2, 23, 1) = 1
            # whole numbers: 32768 is none of shorts, and 70000 one of floats
            mark(1, 0, 32768) = 1; mark(2, 0, 70000) = 1; lay(1, 2, 1); item(1, 0) = -32768; lay(1, 2, 2); item(1, 0) = 70000
            """);
        says("28", "A SHEET becomes a row of n places of a sort, all 0 (sort -1: MISSING, n any): n (0)", """
            sheet(0, 0, 2) = 2; mark(0, 0, 5) = 1; mark(0, 1, 6) = 1; sheet(0, 0, 2) = 2; lay(0, 2, 0); item(0, 0) = 0; item(0, 1) = 0; item(0, 2) = INDEX
            mark(0, 1, 6) = 1; sheet(0, 1, 3) = 3; lay(0, 2, 0); item(0, 0) = 0; item(0, 1) = 0; item(0, 2) = 0; mark(0, 1, NONE) = 1; sheet(0, 0, 3); lay(0, 2, 0); item(0, 1) = 0
            # a row that was shorter: none of what lay beyond it comes back
            mark(0, 2, 7); sheet(0, 0, 1) = 1; sheet(0, 0, 3) = 3; lay(0, 2, 0); item(0, 2) = 0
            sheet(0, -1, 25) = 0; reads(0) = NOTHING; sheet(0, 0, 1) = 1; sheet(0, -1, -1) = 0; reads(0) = NOTHING; sheet(0, -1, LOW) = 0; sheet(0, -1, HIGH) = 0; sheet(4, -1, 0) = BAD; sheet(-1, -1, 0) = BAD
            """);
        says("28", "BAD: sheet, sort, n above 24; SIZE", "sheet(0, 0, 24) = 24; sheet(0, 0, 25) = BAD; sheet(0, 0, 0) = 0; sheet(0, 0, -1) = SIZE; sheet(0, 1, LOW) = SIZE; sheet(0, 1, HIGH) = BAD; sheet(0, 2, 25) = BAD; sheet(0, 2, -1) = BAD; sheet(4, 0, -1) = BAD");
    }

    private static void marks() {
        says("29", "of shorts its lowest 16 bits", """
            sheet(0, 0, 1); lay(0, 2, 0)
            mark(0, 0, 32767) = 1; lay(0, 2, 0); item(0, 0) = 32767
            mark(0, 0, 32768) = 1; lay(0, 2, 0); item(0, 0) = -32768
            mark(0, 0, -32768) = 1; lay(0, 2, 0); item(0, 0) = -32768
            mark(0, 0, -32769) = 1; lay(0, 2, 0); item(0, 0) = 32767
            mark(0, 0, 65535) = 1; lay(0, 2, 0); item(0, 0) = -1
            mark(0, 0, 65536) = 1; lay(0, 2, 0); item(0, 0) = 0
            mark(0, 0, 65537) = 1; lay(0, 2, 0); item(0, 0) = 1
            mark(0, 0, -65536) = 1; lay(0, 2, 0); item(0, 0) = 0
            mark(0, 0, HIGH) = 1; lay(0, 2, 0); item(0, 0) = -1
            mark(0, 0, LOW) = 1; lay(0, 2, 0); item(0, 0) = 0
            mark(0, 0, 100000) = 1; lay(0, 2, 0); item(0, 0) = -31072
            """);
        says("29", "KIND: NONE in a row of shorts", """
            sheet(0, 0, 2); mark(0, 0, 9); mark(0, 0, NONE) = KIND; mark(0, 1, NONE) = KIND; mark(0, 2, NONE) = INDEX; lay(0, 2, 0); item(0, 0) = 9; item(0, 1) = 0
            # the numbers next to NONE, and those with the same lowest 16 bits, are numbers
            mark(0, 0, -1000000004) = 1; lay(0, 2, 0); item(0, 0) = 13820; mark(0, 0, -1000000006) = 1; lay(0, 2, 0); item(0, 0) = 13818; mark(0, 0, 13819) = 1; lay(0, 2, 0); item(0, 0) = 13819
            mark(0, 0, -1000000011) = 1; mark(0, 0, BAD) = 1
            """);
        says("29", "of floats v, -99999 .. 99999; NONE: NO NUMBER", """
            sheet(0, 1, 1); mark(0, 0, 99999) = 1; lay(0, 2, 0); item(0, 0) = 99999; mark(0, 0, 100000) = BAD; mark(0, 0, -99999) = 1; lay(0, 2, 0); item(0, 0) = -99999; mark(0, 0, -100000) = BAD
            mark(0, 0, HIGH) = BAD; mark(0, 0, LOW) = BAD; mark(0, 0, -1000000004) = BAD; mark(0, 0, -1000000006) = BAD; mark(0, 0, NOTHING) = BAD; lay(0, 2, 0); item(0, 0) = -99999
            mark(0, 0, NONE) = 1; lay(0, 2, 0); item(0, 0) = KIND; mark(0, 0, NONE) = 1; mark(0, 0, 0) = 1; lay(0, 2, 0); item(0, 0) = 0
            """);
        says("29", "BAD: sheet; NOTHING; INDEX; KIND", """
            mark(-1, 0, 0) = BAD; mark(4, 0, 0) = BAD; mark(0, 0, 0) = NOTHING; sheet(0, 0, 1); mark(0, 0, 0) = 1; mark(0, 1, 0) = INDEX; mark(0, -1, 0) = INDEX; mark(0, LOW, 0) = INDEX; mark(0, HIGH, 0) = INDEX; sheet(0, 0, 0); mark(0, 0, 0) = INDEX
            """);
    }

    private static void pour() {
        says("30", "each held within 0 .. 99", """
            5 * house(0, 1, 0, 50)
            sheet(0, 1, 5); mark(0, 0, -1); mark(0, 1, 0); mark(0, 2, 99); mark(0, 3, 100); mark(0, 4, -99999)
            pour(0) = 5; told(0, 3) = 0; told(1, 3) = 0; told(2, 3) = 99; told(3, 3) = 99; told(4, 3) = 0
            mark(0, 0, 99999); mark(0, 1, 1); mark(0, 2, 98); mark(0, 3, 99); mark(0, 4, 0); pour(0) = 3; told(0, 3) = 99; told(1, 3) = 1; told(2, 3) = 98; told(3, 3) = 99; told(4, 3) = 0
            sheet(1, 0, 2); mark(1, 0, 32767); mark(1, 1, -32768); pour(1) = 1; told(0, 3) = 99; told(1, 3) = 0
            """);
        says("30", "NO NUMBER, and beyond the SHEET: they stay", """
            3 * house(0, 1, 0, 50)
            sheet(0, 1, 2); mark(0, 0, NONE); mark(0, 1, 7); pour(0) = 1; told(0, 3) = 50; told(1, 3) = 7; told(2, 3) = 50
            sheet(0, 1, 0); pour(0) = 0; told(0, 3) = 50; sheet(0, 1, 3); mark(0, 0, NONE); mark(0, 1, NONE); mark(0, 2, NONE); pour(0) = 0; told(2, 3) = 50
            # places beyond all HOUSES are not looked at
            sheet(0, 1, 24); mark(0, 0, 50); mark(0, 1, 7); mark(0, 2, 50); mark(0, 3, 8); pour(0) = 0; house(0, 1, 0, 9); pour(0) = 1; told(3, 3) = 8
            """);
        says("30", "how many are otherwise then", """
            sheet(0, 0, 24); pour(0) = 0; 9 * house(0, 1, 0, 0); pour(0) = 0; mark(0, 8, 1); pour(0) = 1; pour(0) = 0; mark(0, 8, 99); pour(0) = 1; mark(0, 8, 100); pour(0) = 0; mark(0, 9, 5); pour(0) = 0
            set(0, 3, 1); set(4, 3, 1); pour(0) = 2; fells(2); mark(0, 2, 4); pour(0) = 1; told(2, 3) = 4
            """);
        says("30", "BAD; NOTHING.", "house(0, 1, 0, 5); pour(0) = NOTHING; pour(3) = NOTHING; pour(4) = BAD; pour(-1) = BAD; sheet(3, 0, 1); pour(3) = 1; told(0, 3) = 0; sheet(3, -1, 0); pour(3) = NOTHING");
    }

    private static void reads() {
        says("31", "The first place (of numbers alone) at which a SHEET is not LEAN of that HOUSE (of places that are no HOUSE all numbers are not)", """
            house(0, 1, -50, 0); house(0, 1, 0, 0); house(0, 1, 50, 0); sheet(0, 1, 4)
            reads(0) = 0; mark(0, 0, -50); reads(0) = 2; mark(0, 2, 50); reads(0) = 3; mark(0, 0, -49); reads(0) = 0; mark(0, 0, 50); reads(0) = 0; mark(0, 0, -50)
            # 0 is a number where there is no HOUSE, and NO NUMBER is none
            mark(0, 3, NONE); reads(0) = NONE; mark(0, 3, -1); reads(0) = 3; mark(0, 1, NONE); reads(0) = 3; mark(0, 3, 0); reads(0) = 3; house(0, 1, 0, 0); reads(0) = NONE
            mark(0, 0, NONE); mark(0, 1, NONE); mark(0, 2, NONE); mark(0, 3, NONE); reads(0) = NONE; mark(0, 3, 5); reads(0) = 3
            fells(3); mark(0, 3, 0); reads(0) = NONE
            # all of 24
            sheet(1, 1, 24); reads(1) = 0
            """);
        says("31", "BAD; NOTHING; NONE: there is none", """
            reads(-1) = BAD; reads(4) = BAD; reads(0) = NOTHING; sheet(0, 0, 0); reads(0) = NONE; sheet(0, 0, 1); reads(0) = 0; sheet(3, 1, 1); reads(3) = 0; mark(3, 0, NONE); reads(3) = NONE
            house(0, 1, 0, 0); reads(0) = NONE; set(0, 2, 1); reads(0) = 0; reads(3) = NONE; sheet(0, -1, 0); reads(0) = NOTHING
            """);
    }

    private static void copy() {
        String row = "sheet(0, 0, 5); mark(0, 0, 10); mark(0, 1, 11); mark(0, 2, 12); mark(0, 3, 13); mark(0, 4, 14);";
        says("32", "So many places of a SHEET come to another one (or the same), as they were: many", row + """
            copy(0, 0, 0, 1, 4) = 4; lay(0, 2, 0); item(0, 0) = 10; item(0, 1) = 10; item(0, 2) = 11; item(0, 3) = 12; item(0, 4) = 13
            copy(0, 1, 0, 0, 4) = 4; lay(0, 2, 0); item(0, 0) = 10; item(0, 1) = 11; item(0, 2) = 12; item(0, 3) = 13; item(0, 4) = 13
            copy(0, 0, 0, 0, 5) = 5; lay(0, 2, 0); item(0, 0) = 10; item(0, 4) = 13
            sheet(1, 0, 3); copy(0, 1, 1, 1, 2) = 2; lay(0, 2, 1); item(0, 0) = 0; item(0, 1) = 11; item(0, 2) = 12; copy(0, 0, 1, 0, 0) = 0; lay(0, 2, 1); item(0, 0) = 0
            # rows stay rows of their own
            mark(0, 1, 99); lay(0, 2, 1); item(0, 1) = 11
            """);
        says("32", "KIND: they are not of one sort", row + """
            sheet(1, 1, 5); copy(0, 0, 1, 0, 1) = KIND; copy(1, 0, 0, 0, 1) = KIND; copy(0, 0, 1, 0, 0) = KIND; copy(0, 9, 1, 9, 9) = KIND; copy(1, 0, 1, 1, 1) = 1; sheet(1, 0, 5); copy(0, 0, 1, 0, 1) = 1; sheet(0, 1, 5); copy(0, 0, 1, 0, 1) = KIND
            """);
        says("32", "INDEX. (From a SHEET, its place, to a SHEET, its place.)", row + """
            sheet(1, 0, 3); copy(0, 4, 1, 2, 1) = 1; lay(0, 2, 1); item(0, 2) = 14; copy(0, 5, 1, 2, 1) = INDEX; copy(0, 4, 1, 3, 1) = INDEX; copy(0, 2, 1, 0, 3) = 3; copy(0, 3, 1, 0, 3) = INDEX; copy(0, 0, 1, 0, 4) = INDEX; copy(0, 0, 1, 1, 3) = INDEX
            copy(0, -1, 1, 0, 1) = INDEX; copy(0, 0, 1, -1, 1) = INDEX; copy(0, 0, 1, 0, -1) = INDEX; copy(0, LOW, 1, 0, 1) = INDEX; copy(0, 0, 1, LOW, 1) = INDEX; copy(0, 0, 1, 0, LOW) = INDEX
            # sums that wrap
            copy(0, HIGH, 1, 0, 1) = INDEX; copy(0, 1, 1, 0, HIGH) = INDEX; copy(0, 0, 1, HIGH, 1) = INDEX; copy(0, HIGH, 1, HIGH, HIGH) = INDEX; copy(0, LOW, 1, LOW, LOW) = INDEX; copy(0, HIGH, 1, 0, LOW) = INDEX; copy(0, 4, 1, 0, HIGH) = INDEX
            # none, at the end of a row, and beyond it
            copy(0, 5, 1, 3, 0) = 0; copy(0, 6, 1, 0, 0) = INDEX; copy(0, 0, 1, 4, 0) = INDEX; copy(0, -1, 1, 0, 0) = INDEX; copy(0, 0, 1, -1, 0) = INDEX
            sheet(2, 0, 0); copy(2, 0, 2, 0, 0) = 0; copy(2, 0, 2, 0, 1) = INDEX; copy(0, 0, 2, 0, 1) = INDEX; copy(2, 0, 0, 5, 0) = 0
            lay(0, 2, 1); item(0, 0) = 12; item(0, 1) = 13; item(0, 2) = 14
            """);
        says("32", "BAD; NOTHING; KIND", row + "copy(0, 0, 3, 0, 0) = NOTHING; copy(3, 0, 0, 0, 0) = NOTHING; copy(3, 0, 3, 0, 0) = NOTHING; copy(0, 0, 4, 0, 0) = BAD; copy(4, 0, 0, 0, 0) = BAD; copy(-1, 0, 3, 0, 0) = BAD; copy(3, 0, -1, 0, 0) = BAD; copy(0, 0, 0, 0, 1) = 1");
        says("5", "A place of floats may be NO NUMBER", """
            sheet(0, 1, 2); mark(0, 0, NONE) = 1; lay(0, 2, 0); item(0, 0) = KIND; item(0, 1) = 0; copy(0, 0, 0, 1, 1) = 1; lay(0, 2, 0); item(0, 1) = KIND; copy(0, 0, 0, 1, 2) = INDEX; sheet(0, 1, 2); lay(0, 2, 0); item(0, 0) = 0
            """);
    }

    private static void slots() {
        says("5", "SLOTS 0 .. 4 each hold nothing (at first)", """
            ask(0, 0) = NOTHING; item(1, 0) = NOTHING; rest(2, 0) = NOTHING; ask(3, 5) = NOTHING; item(4, 99) = NOTHING; ask(5, 0) = BAD; ask(-1, 0) = BAD; item(5, 0) = BAD; item(-1, 0) = BAD; rest(5, 0) = BAD; rest(-1, 0) = BAD
            lay(0, 0, 0) = 0; lay(4, 0, 9) = 0; lay(5, 0, 0) = BAD; lay(-1, 0, 0) = BAD; lay(4, 3, 6) = 0; rest(4, 4) = 2; rest(3, 4) = NOTHING; lay(0, 3, 7) = 0; rest(0, 4) = 3; rest(1, 4) = NOTHING
            """);
        says("5", "a HOUSE (as it is then, for good)", """
            house(1, 1, 0, 9); lay(0, 1, 0) = 0; ask(0, 0) = 16; ask(0, 1) = 16; turns(0, 4); set(0, 3, 50); fells(0); ask(0, 0) = 16; ask(0, 1) = 16; ask(0, 2) = KIND
            # through an IMAGE in which there is no such HOUSE
            new
            keep(); house(2, 1, 0, 9); lay(0, 1, 0); back(); ask(0, 2) = 90; house(0, 1, 0, 9); ask(0, 2) = 90; lay(0, 1, 1) = BAD; ask(0, 0) = 90; lay(0, 1, 0) = 1; ask(0, 2) = KIND; ask(0, 0) = 9
            # one that is FALLEN
            fells(0); lay(1, 1, 0) = 0; ask(1, 0) = 9
            """);
        says("5", "a SHEET (a row of its own, as it was then)", """
            sheet(0, 1, 2); mark(0, 0, 5); mark(0, 1, NONE); lay(0, 2, 0) = 0; mark(0, 0, 6); mark(0, 1, 7); item(0, 0) = 5; item(0, 1) = KIND; item(0, 2) = INDEX; item(0, -1) = INDEX
            sheet(0, 0, 24); item(0, 0) = 5; item(0, 2) = INDEX; sheet(0, -1, 0); item(0, 0) = 5; lay(0, 2, 0) = NOTHING; item(0, 0) = 5; sheet(0, 0, 0); lay(1, 2, 0) = 0; item(1, 0) = INDEX; item(0, 0) = 5
            keep(); sheet(0, 0, 1); lay(2, 2, 0); back(); item(2, 0) = 0; item(0, 1) = KIND
            """);
        says("33", "A SLOT holds: thing 0 nothing, 1 HOUSE k, 2 SHEET k, 3 the number k: what it held (0 .. 3)", """
            house(0, 1, 0, 3); sheet(3, 0, 1)
            lay(4, 1, 0) = 0; lay(4, 2, 3) = 1; lay(4, 3, LOW) = 2; lay(4, 3, HIGH) = 3; rest(4, 1000) = 647; lay(4, 0, LOW) = 3; rest(4, 1) = NOTHING; lay(4, 0, HIGH) = 0; lay(4, 3, -1000000005) = 0; rest(4, 1000) = -5
            lay(4, 1, 0) = 3; lay(4, 1, 0) = 1; lay(4, 2, 3) = 1; lay(4, 2, 3) = 2; lay(4, 0, 0) = 2; lay(4, 0, 0) = 0; lay(4, 3, 0) = 0; rest(4, 5) = 0; lay(4, 3, 0) = 3
            """);
        says("33", "BAD: slot, thing, k; NOTHING: that SHEET is MISSING", """
            lay(0, -1, 0) = BAD; lay(0, 4, 0) = BAD; lay(-1, 0, 0) = BAD; lay(5, 0, 0) = BAD; lay(0, 1, 0) = BAD; house(0, 1, 0, 0); lay(0, 1, 0) = 0; lay(0, 1, 1) = BAD; lay(0, 1, -1) = BAD; lay(0, 2, -1) = BAD; lay(0, 2, 4) = BAD; lay(0, 2, 3) = NOTHING; sheet(3, 1, 0); lay(0, 2, 3) = 1
            """);
        says("34", "BAD; NOTHING; KIND: it is no HOUSE, or not of that KIND, nor of one under it", """
            ask(0, 6) = BAD; ask(0, -1) = BAD; ask(0, 5) = NOTHING; lay(0, 3, 0); ask(0, 0) = KIND; sheet(0, 0, 1); lay(0, 2, 0); ask(0, 0) = KIND; ask(0, 6) = BAD
            house(0, 1, 0, 9); house(1, 1, 0, 9); house(2, 1, 0, 9); house(3, 1, 0, 9); house(4, 1, 0, 9); house(5, 1, 0, 9)
            lay(0, 1, 0); ask(0, 0) = 9; ask(0, 1) = KIND; ask(0, 2) = KIND; ask(0, 3) = KIND; ask(0, 4) = KIND; ask(0, 5) = KIND
            lay(0, 1, 1); ask(0, 0) = 16; ask(0, 1) = 16; ask(0, 2) = KIND; ask(0, 3) = KIND; ask(0, 4) = KIND; ask(0, 5) = KIND
            lay(0, 1, 2); ask(0, 0) = 90; ask(0, 1) = KIND; ask(0, 2) = 90; ask(0, 3) = KIND; ask(0, 4) = KIND; ask(0, 5) = KIND
            lay(0, 1, 3); ask(0, 0) = 32; ask(0, 1) = 32; ask(0, 2) = KIND; ask(0, 3) = 32; ask(0, 4) = KIND; ask(0, 5) = KIND
            lay(0, 1, 4); ask(0, 0) = 85; ask(0, 1) = KIND; ask(0, 2) = 85; ask(0, 3) = KIND; ask(0, 4) = 85; ask(0, 5) = KIND
            lay(0, 1, 5); ask(0, 0) = 6; ask(0, 1) = KIND; ask(0, 2) = KIND; ask(0, 3) = KIND; ask(0, 4) = KIND; ask(0, 5) = 6; ask(0, 6) = BAD; ask(5, 0) = BAD
            """);
        says("35", "BAD: slot; NOTHING; KIND: it is no SHEET; INDEX; KIND: NO NUMBER", """
            item(5, 0) = BAD; item(-1, 0) = BAD; item(0, 0) = NOTHING; lay(0, 3, 0); item(0, 0) = KIND; item(0, -1) = KIND; house(0, 1, 0, 0); lay(0, 1, 0); item(0, 0) = KIND
            sheet(0, 1, 3); mark(0, 1, NONE); mark(0, 2, -7); lay(0, 2, 0); item(0, -1) = INDEX; item(0, 0) = 0; item(0, 1) = KIND; item(0, 2) = -7; item(0, 3) = INDEX; item(0, LOW) = INDEX; item(0, HIGH) = INDEX
            sheet(0, 0, 24); mark(0, 23, 4); lay(0, 2, 0); item(0, 23) = 4; item(0, 24) = INDEX; sheet(0, 1, 0); lay(0, 2, 0); item(0, 0) = INDEX
            """);
        says("36", "BAD: slot; NOTHING; KIND: it is no number; NO: n is 0", """
            rest(5, 1) = BAD; rest(-1, 1) = BAD; rest(0, 1) = NOTHING; rest(0, 0) = NOTHING; house(0, 1, 0, 0); lay(0, 1, 0); rest(0, 1) = KIND; rest(0, 0) = KIND; sheet(0, 0, 1); lay(0, 2, 0); rest(0, 1) = KIND; rest(0, 0) = KIND
            lay(0, 3, 7); rest(0, 0) = NO; rest(0, 1) = 0; rest(0, -1) = 0; rest(0, 2) = 1; rest(0, -2) = 1; rest(0, 7) = 0; rest(0, 8) = 7; rest(0, HIGH) = 7; rest(0, LOW) = 7
            lay(0, 3, LOW); rest(0, -1) = 0; rest(0, 1) = 0; rest(0, HIGH) = -1; rest(0, LOW) = 0; rest(0, 10) = -8; rest(0, -10) = -8; lay(0, 3, HIGH); rest(0, LOW) = 2147483647; rest(0, -1) = 0; lay(0, 3, 0); rest(0, 0) = NO; rest(0, 9) = 0
            """);
    }

    private static void rows() {
        says("37", "One more number waits: how many. FULL: 60 wait.", """
            count(5) = 0; tell(LOW) = 1; tell(HIGH) = 2; tell(NONE) = 3; 56 * tell(5)
            count(5) = 59; tell(6) = 60; tell(7) = FULL; count(5) = 60; tell(7) = FULL; check(1) = NO; count(5) = 0; tell(1) = 1
            """);
        says("5", "THE DAYS TOLD: of n DAYS, one behind the other, by THE IMAGE: how many STAND; CRACKS of all, together, behind each", """
            house(0, 1, 0, 0); house(5, 1, 0, 0); fells(1); set(1, 4, 7); snow(20); keep() = 2; snow(0); fells(0)
            tell(1); tell(27); check(1) = 0; tell(1); tell(27); tell(1); tell(47); tell(1); tell(67); tell(1); tell(87); tell(0); tell(107); tell(0); tell(107); check(6) = 0; street(1) = 0; street(2) = 7; count(2) = 0
            """);
        says("38", "two by two: 0; else 1 and how many stand right ahead of the first that is not (or is missing, or one too many)", """
            house(5, 1, 0, 0); set(0, 4, 9); keep()
            check(1) = 1; tell(1); check(1) = 2; tell(1); tell(9); check(1) = 0; tell(1); tell(9); tell(1); check(1) = 3; tell(1); tell(9); tell(1); tell(9); check(1) = 3
            tell(0); tell(9); check(1) = 1; tell(1); tell(8); check(1) = 2; tell(0); check(1) = 1; tell(1); tell(8); tell(5); check(1) = 2
            tell(1); tell(9); tell(1); tell(9); check(2) = 0; tell(1); tell(9); tell(1); check(2) = 4; tell(1); tell(9); tell(0); tell(9); check(2) = 3; tell(1); tell(9); tell(1); tell(10); check(2) = 4; tell(1); tell(9); check(2) = 3; check(2) = 1
            """);
        says("38", "(1 .. 30; fewer, if THE DAY would be above 9999)", """
            check(0) = BAD; check(31) = BAD; house(5, 1, 0, 0); keep()
            check(0) = BAD; check(-1) = BAD; check(31) = BAD; check(LOW) = BAD; check(HIGH) = BAD; check(1) = 1; check(30) = 1
            """ + "tell(1); tell(0);".repeat(30) + "check(30) = 0;" + "tell(1); tell(0);".repeat(30) + "check(29) = 59;" + "tell(1); tell(0);".repeat(29) + "tell(1); check(30) = 60;" + "tell(1); tell(0);".repeat(29) + "check(29) = 0");
        says("38", "fewer, if THE DAY would be above 9999", """
            house(5, 1, 0, 0); 99 * days(100)
            days(97); count(2) = 9997; keep() = 1; tell(1); tell(0); tell(1); tell(0); check(2) = 0; tell(1); tell(0); tell(1); tell(0); check(3) = 0; tell(1); tell(0); tell(1); tell(0); check(30) = 0
            tell(1); tell(0); tell(1); tell(0); tell(1); check(30) = 5; tell(1); tell(0); tell(1); check(30) = 4; tell(1); tell(0); check(30) = 3; tell(1); tell(0); check(1) = 0
            # THE DAY of THE IMAGE, not the one that is now
            days(2); count(2) = 9999; tell(1); tell(0); tell(1); tell(0); check(30) = 0; keep() = 1; check(30) = 0; check(1) = 0; tell(1); check(1) = 1; tell(1); tell(0); check(30) = 1; check(31) = BAD
            """);
        says("38", "BAD; NO: there is no IMAGE.", "tell(5); check(1) = NO; count(5) = 0; check(30) = NO; check(31) = BAD; check(0) = BAD; tell(5); check(0) = BAD; count(5) = 0; keep() = 0; check(1) = 1; tell(0); tell(0); check(1) = 0");
    }

    private static void images() {
        says("40", "All is as THE IMAGE: how many HOUSES. NO: there is none.", """
            back() = NO; house(0, 1, 0, 0); back() = NO; count(0) = 1; keep() = 1; back() = 1; 8 * house(0, 1, 0, 0)
            back() = 1; count(0) = 1; keep() = 1; 8 * house(0, 1, 0, 0)
            keep() = 9; back() = 9; house(0, 1, 0, 0) = FULL
            new
            keep() = 0; deal(9) = 9; back() = 0; count(0) = 0; told(0, 0) = BAD; house(5, 1, 0, 0) = 0
            """);
        says("5", "all can become as it is (again and again)", """
            house(3, 10, 5, 4); set(0, 4, 6); set(0, 5, 2); snow(7); seed(12); text "fee d*3" = 0; days(5); fells(0); keep() = 1
            house(0, 1, 0, 0); raises(0); set(0, 1, 1); set(0, 3, 0); set(0, 5, 9); turns(0, 0); snow(-7); deal(3); days(9); text "fee 1"; text "push 2"; back() = 1
            count(0) = 1; count(1) = 0; count(2) = 5; count(3) = 7; count(4) = 1; count(7) = 12; street(0) = 10; street(3) = 0; fee() = 15; why(0) = NONE; why(1) = 0
            told(0, 0) = 3; told(0, 1) = 10; told(0, 2) = 5; told(0, 3) = 4; told(0, 4) = 6; told(0, 5) = 0; told(0, 6) = 0; told(0, 7) = 0
            house(0, 1, 0, 0); raises(0); set(0, 1, 1); turns(0, 0); snow(-7); deal(3); days(9); text "fee 1"; back() = 1; back() = 1
            count(0) = 1; count(1) = 0; count(2) = 5; count(3) = 7; count(4) = 1; count(7) = 12; street(0) = 10; fee() = 15; told(0, 0) = 3; told(0, 1) = 10; told(0, 6) = 0
            """);
        says("5", "AN IMAGE keeps all but SHEETS, SLOTS, numbers that wait, THE TAPE", """
            sheet(0, 0, 2); mark(0, 1, 5); lay(0, 3, 8); tell(4); feed(0, 0, 0); keep() = 0
            mark(0, 1, 6); sheet(1, 1, 1); lay(0, 3, 9); lay(1, 2, 0); tell(4); feed(0, 0, 0); trim(20); back() = 0
            lay(2, 2, 0) = 0; item(2, 1) = 6; reads(1) = 0; rest(0, 100) = 9; item(1, 1) = 6; count(5) = 2; count(6) = 20
            # nor does keep touch them
            keep(); count(5) = 2; count(6) = 20; rest(0, 100) = 9; reads(1) = 0
            sheet(0, -1, 0); lay(0, 0, 0); trim(0); check(1); back(); reads(0) = NOTHING; rest(0, 1) = NOTHING; count(5) = 0; count(6) = 0
            """);
        says("41", "0 how many HOUSES, 1 how many STAND, 2 THE DAY, 3 SNOW, 4 TEXTS, 5 numbers that wait, 6 bytes of THE TAPE, 7 z. BAD.", """
            count(-1) = BAD; count(8) = BAD; count(LOW) = BAD; count(HIGH) = BAD
            count(0) = 0; count(1) = 0; count(2) = 0; count(3) = 0; count(4) = 0; count(5) = 0; count(6) = 0; count(7) = 1
            9 * house(5, 1, 0, 0)
            count(0) = 9; count(1) = 9; fells(8); count(0) = 9; count(1) = 8; days(100); count(2) = 100; snow(-20); count(3) = -20; feed(0, 0, 0); count(6) = 12; seed(LOW) = 1; count(7) = LOW; seed(HIGH) = LOW; count(7) = HIGH; seed(0) = HIGH; count(7) = 0
            """);
    }

    public static void main(String[] args) {
        sheets();
        marks();
        pour();
        reads();
        copy();
        slots();
        rows();
        images();
        Runs.end("the rows hold at their boundaries");
    }
}
