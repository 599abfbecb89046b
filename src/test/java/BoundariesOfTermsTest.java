/** The document's heads, sentence by sentence: each one that names a boundary case, on both sides of it. */
public final class BoundariesOfTermsTest {
    private static void says(String place, String sentence, String run) {
        Runs.says(place, sentence, run);
    }

    private static void theFace() {
        String[] names = {"BAD", "NO", "FULL", "NONE", "NOTHING", "KIND", "INDEX", "SIZE"};
        int[] constants = {LeaningStreet.BAD, LeaningStreet.NO, LeaningStreet.FULL, LeaningStreet.NONE, LeaningStreet.NOTHING, LeaningStreet.KIND,
            LeaningStreet.INDEX, LeaningStreet.SIZE};
        for (int i = 0; i < names.length; i++) {
            Runs.isInTheDocument(names[i] + " = " + constants[i]);
            Runs.due("the constant " + names[i], constants[i], Runs.number(names[i]));
        }
    }

    private static void terms() {
        says("What it is", "An object is used for at most 512 calls after it has been made", """
            511 * count(7) = 1
            house(5, 99, -50, 99) = 0
            new
            seed(5); deal(9) = 9
            60 * propped(40)
            60 * snows(60)
            60 * wall(60, 1)
            60 * behind(100, 1)
            60 * tell(7)
            tell(7) = FULL
            60 * check(31) = BAD
            60 * keep() = 9
            60 * back() = 9
            count(0) = 9
            """);
        says("Terms", "/ cuts towards 0", """
            house(0, 19, -25, 0); told(0, 7) = 47
            house(0, 9, 1, 0); told(1, 7) = 0
            house(0, 10, 1, 0); told(2, 7) = 1
            house(1, 19, -25, 0); told(3, 7) = 23
            text "fee (0-7)/2" = 0; fee() = -3
            text "fee 7/(0-2)" = 1; fee() = -3
            text "fee (0-1)/2" = 2; fee() = 0
            lay(0, 3, -7); rest(0, 2) = -1; rest(0, -2) = -1
            lay(0, 3, 7); rest(0, -2) = 1
            """);
        says("Terms", "Sets of HOUSES are told as bits (bit k for number k)", """
            street(1) = 0; behind(0, 0) = 0
            house(0, 1, 0, 0); street(1) = 1; behind(100, 0) = 1
            8 * house(0, 1, 0, 0)
            street(1) = 511; street(4) = 0
            snow(1); street(4) = 511
            fells(8) = 8; street(1) = 255; street(4) = 255; behind(1, 0) = 255
            fells(0) = 7; street(1) = 254; street(4) = 254; behind(1, 0) = 254
            """);
    }

    /** 'of several the one that stands first with it', for each call with more than one refusal. */
    private static void theFirstOfSeveral() {
        String said = "of several the one that stands first with it";
        says("Terms, 2", said, "9 * house(0, 1, 0, 0); house(0, 1, 0, 0) = FULL; house(6, 1, 0, 0) = BAD; house(0, 1, 0, 100) = BAD");
        says("Terms, 16", said, "house(0, 1, 0, 0); fells(0); taken(0, 60) = NO; taken(0, 61) = BAD; taken(0, 0) = BAD; taken(1, 1) = BAD");
        says("Terms, 17", said, "house(0, 1, 0, 0); set(0, 4, 100); propped(40) = NONE; propped(41) = BAD; propped(0) = BAD");
        says("Terms, 18", said, "wall(60, 1) = NONE; wall(1, 0) = NONE; wall(0, 0) = BAD; wall(61, 1) = BAD; wall(1, 2) = BAD; wall(1, -1) = BAD");
        says("Terms, 19", said, "house(0, 1, 0, 0); set(0, 4, 100); snows(60) = NONE; snows(61) = BAD; snows(0) = BAD");
        says("Terms, 20", said, """
            began(3, 60, 1) = NOTHING; began(4, 60, 1) = BAD; began(3, 61, 1) = BAD; began(3, -1, 0) = BAD; began(3, 0, 2) = BAD; began(3, 0, -1) = BAD
            sheet(3, 0, 0); began(3, 60, 1) = NONE; began(3, 61, 1) = BAD; began(3, 60, 2) = BAD
            """);
        says("Terms, 25", said, """
            14 * text "fee 1"
            count(4) = 14; text "fee 1" = FULL; text "fee" = FAULT 3; text() = FAULT 0
            """);
        says("Terms, 28", said, "sheet(0, 0, -1) = SIZE; sheet(4, 0, -1) = BAD; sheet(-1, 1, -1) = BAD; sheet(0, 2, -1) = BAD; sheet(0, -2, -1) = BAD");
        says("Terms, 29", said, """
            mark(0, 0, NONE) = NOTHING; mark(0, -1, 0) = NOTHING; mark(4, 0, 0) = BAD; mark(-1, 0, NONE) = BAD
            sheet(0, 0, 1); mark(0, 1, NONE) = INDEX; mark(0, -1, NONE) = INDEX; mark(0, 0, NONE) = KIND; mark(4, 1, NONE) = BAD
            sheet(1, 1, 1); mark(1, 1, 100000) = INDEX; mark(1, -1, -100000) = INDEX; mark(1, 0, 100000) = BAD
            """);
        says("Terms, 32", said, """
            copy(0, 0, 4, 0, 0) = BAD; copy(4, 0, 0, 0, 0) = BAD; copy(-1, -1, 0, 0, -1) = BAD; copy(0, 0, -1, 0, 0) = BAD
            copy(0, -1, 1, 0, 1) = NOTHING
            sheet(0, 0, 2); copy(0, 3, 1, 0, 1) = NOTHING; copy(1, 0, 0, 3, 1) = NOTHING
            sheet(1, 1, 2); copy(0, 3, 1, 0, 1) = KIND; copy(0, 0, 1, 3, 1) = KIND; copy(0, 0, 1, 0, -1) = KIND; copy(1, 0, 0, 0, 0) = KIND
            """);
        says("Terms, 33", said, "lay(0, 2, 3) = NOTHING; lay(0, 2, 4) = BAD; lay(5, 2, 3) = BAD; lay(-1, 2, 3) = BAD; lay(0, 4, 3) = BAD");
        says("Terms, 34", said, """
            ask(0, 5) = NOTHING; ask(0, 6) = BAD; ask(0, -1) = BAD; ask(5, 0) = BAD
            lay(0, 3, 1); ask(0, 5) = KIND; ask(0, 6) = BAD
            """);
        says("Terms, 35", said, """
            item(0, -1) = NOTHING; item(5, -1) = BAD; item(-1, 0) = BAD
            lay(0, 3, 1); item(0, -1) = KIND
            house(0, 1, 0, 0); lay(0, 1, 0); item(0, 99) = KIND
            """);
        says("Terms, 36", said, """
            rest(0, 0) = NOTHING; rest(5, 0) = BAD; rest(-1, 0) = BAD
            house(0, 1, 0, 0); lay(0, 1, 0); rest(0, 0) = KIND
            lay(0, 3, 1); rest(0, 0) = NO
            """);
        says("Terms, 38", said, "check(30) = NO; check(31) = BAD; check(0) = BAD; check(LOW) = BAD");
    }

    private static void houses() {
        says("1", "HOUSES, 9 at most, numbered from 0 along the street", """
            count(0) = 0; told(0, 0) = BAD
            house(0, 1, 0, 0) = 0; told(0, 0) = 0; told(1, 0) = BAD
            7 * house(0, 1, 0, 0)
            told(8, 0) = BAD; house(5, 9, 8, 7) = 8; told(8, 0) = 5; told(8, 3) = 7
            house(0, 1, 0, 0) = FULL; deal(1) = 0; count(0) = 9; told(9, 0) = BAD
            """);
        says("1", "the next ones of a HOUSE are those with the next lesser and the next greater number that STAND (FALLEN ones are passed over)", """
            house(0, 10, 20, 99); house(0, 10, 30, 99); house(0, 10, -40, 99); house(0, 10, -50, 99)
            told(0, 9) = 0; told(1, 9) = -20; told(2, 9) = -20; told(3, 9) = 0
            fells(1); told(0, 9) = -40; told(2, 9) = -30
            fells(2); told(0, 9) = -50; told(3, 9) = 20
            raises(1); told(0, 9) = 0; told(3, 9) = 0; told(1, 9) = -30
            fells(0); told(1, 9) = -50
            fells(3); told(1, 9) = 0
            # seven FALLEN ones between two
            new
            house(0, 10, 20, 99); 7 * house(0, 10, 20, 99)
            house(0, 10, -30, 99)
            fells(1); fells(2); fells(3); fells(4); fells(5); fells(6); fells(7)
            told(0, 9) = -30; told(8, 9) = 20
            """);
        says("1", "WEIGHT 1 .. 99", """
            house(0, 1, 0, 0) = 0; house(0, 0, 0, 0) = BAD; house(0, 99, 0, 0) = 1; house(0, 100, 0, 0) = BAD; house(0, -1, 0, 0) = BAD
            set(0, 1, 99) = 1; set(0, 1, 100) = BAD; set(0, 1, 1) = 99; set(0, 1, 0) = BAD; told(0, 1) = 1
            """);
        says("1", "LEAN -50 .. 50 (below 0 to the lesser numbers)", """
            house(0, 1, -50, 0) = 0; house(0, 1, -51, 0) = BAD; house(0, 1, 50, 0) = 1; house(0, 1, 51, 0) = BAD
            set(0, 2, 50) = -50; set(0, 2, 51) = BAD; set(0, 2, -50) = 50; set(0, 2, -51) = BAD; told(0, 2) = -50
            # below 0: on the lesser one alone, above 0: on the greater one alone
            new
            house(0, 1, 0, 99); house(0, 10, -1, 99); house(0, 1, 0, 99)
            told(0, 9) = -1; told(2, 9) = 0
            set(1, 2, 1); told(0, 9) = 0; told(2, 9) = 1
            """);
        says("1", "WALL 0 .. 99", """
            house(0, 1, 0, 0) = 0; house(0, 1, 0, -1) = BAD; house(0, 1, 0, 99) = 1; house(0, 1, 0, 100) = BAD
            set(0, 3, 99) = 0; set(0, 3, 100) = BAD; set(0, 3, 0) = 99; set(0, 3, -1) = BAD; told(0, 3) = 0
            """);
        says("1", "CRACK 0 .. 999 (0 at first)", """
            house(0, 1, 0, 0); told(0, 4) = 0
            set(0, 4, 999) = 0; set(0, 4, 1000) = BAD; set(0, 4, 0) = 999; set(0, 4, -1) = BAD; told(0, 4) = 0
            # a HOUSE that comes where another one has been
            new
            keep(); house(0, 1, 0, 0); set(0, 4, 77); back(); house(0, 1, 0, 0) = 0; told(0, 4) = 0
            back(); house(0, 1, 0, 0); set(0, 4, 77); back(); deal(1) = 1; told(0, 4) = 0
            """);
        says("1", "PROP 0 .. 9 (0 at first)", """
            house(0, 1, 0, 0); told(0, 5) = 0
            set(0, 5, 9) = 0; set(0, 5, 10) = BAD; set(0, 5, 0) = 9; set(0, 5, -1) = BAD; told(0, 5) = 0
            new
            keep(); house(0, 1, 0, 0); set(0, 5, 7); back(); house(0, 1, 0, 0) = 0; told(0, 5) = 0
            """);
        says("1", "STANDS or is FALLEN (STANDS at first)", """
            house(0, 1, 0, 0); told(0, 6) = 1; fells(0) = 0; told(0, 6) = 0; raises(0) = 1; told(0, 6) = 1
            new
            keep(); house(0, 1, 0, 0); fells(0); back(); house(0, 1, 0, 0) = 0; told(0, 6) = 1
            back(); house(0, 1, 0, 0); fells(0); back(); deal(1); told(0, 6) = 1
            """);
        says("1", "of KINDS: 0 HOUSE; 1 TIMBER, 2 BRICK, 5 FLOATING, under HOUSE; 3 EMPTY, under TIMBER; 4 DOUBLE, under BRICK", """
            house(-1, 1, 0, 0) = BAD; house(0, 1, 0, 9) = 0; house(5, 1, 0, 9) = 1; house(6, 1, 0, 0) = BAD
            turns(0, 5) = 0; turns(0, 6) = BAD; turns(0, 0) = 5; turns(0, -1) = BAD
            as(0, 0) = 9; as(0, 1) = KIND; as(0, 2) = KIND; as(0, 3) = KIND; as(0, 4) = KIND; as(0, 5) = KIND
            turns(0, 1); as(0, 0) = 9; as(0, 1) = 9; as(0, 2) = KIND; as(0, 3) = KIND; as(0, 4) = KIND; as(0, 5) = KIND
            turns(0, 2); as(0, 0) = 9; as(0, 1) = KIND; as(0, 2) = 9; as(0, 3) = KIND; as(0, 4) = KIND; as(0, 5) = KIND
            turns(0, 3); as(0, 0) = 9; as(0, 1) = 9; as(0, 2) = KIND; as(0, 3) = 9; as(0, 4) = KIND; as(0, 5) = KIND
            turns(0, 4); as(0, 0) = 9; as(0, 1) = KIND; as(0, 2) = 9; as(0, 3) = KIND; as(0, 4) = 9; as(0, 5) = KIND
            turns(0, 5); as(0, 0) = 9; as(0, 1) = KIND; as(0, 2) = KIND; as(0, 3) = KIND; as(0, 4) = KIND; as(0, 5) = 9
            as(0, 6) = BAD; as(0, -1) = BAD
            """);
        says("1", "THE CHURCH at both ends bears all", """
            house(0, 99, -50, 0); house(0, 99, 50, 0)
            told(0, 9) = 0; told(1, 9) = 0; street(4) = 0; days(100) = 0; lasts() = NONE
            # none falls with THE CHURCH: a first one that leans on it, nor a last one
            new
            house(5, 1, -50, 0); house(5, 1, 0, 0); house(5, 1, 50, 0)
            set(1, 4, 100); days(1) = 1; street(1) = 5
            """);
        says("1", "SNOW is -20 .. 20 (0 at first)", """
            count(3) = 0; snow(20) = 0; snow(21) = BAD; count(3) = 20; snow(-20) = 20; snow(-21) = BAD; count(3) = -20; snow(0) = -20
            snow(LOW) = BAD; snow(HIGH) = BAD; count(3) = 0
            """);
        says("1", "RENT, THE DAY are 0 at first, 9999 at most for THE DAY", """
            street(0) = 0; count(2) = 0
            house(5, 1, 0, 0); set(0, 5, 9)
            99 * days(100) = 0
            count(2) = 9900; days(98) = 0; count(2) = 9998; days(1) = 0; count(2) = 9999; street(0) = 89991
            days(1) = 0; count(2) = 9999; street(0) = 89991; days(100) = 0; count(2) = 9999; street(0) = 89991
            """);
    }

    private static void pushesBearsWorth() {
        says("1", "what push gives, held within 0 .. 999", """
            house(0, 1, 1, 0)
            text "push 998"; told(0, 7) = 998
            text "push 999"; told(0, 7) = 999
            text "push 1000"; told(0, 7) = 999
            text "push 9999*9999"; told(0, 7) = 999
            text "push 1"; told(0, 7) = 1
            text "push 0"; told(0, 7) = 0
            text "push 0-1"; told(0, 7) = 0
            # 9999 * 9999 * 22 wraps to below 0
            text "push 9999*9999*22"; told(0, 7) = 0
            # it is held ahead of what the KINDS make of it, and not again
            new
            house(0, 1, 1, 0); text "push 1001"
            turns(0, 1); told(0, 7) = 499; turns(0, 2); told(0, 7) = 1003; turns(0, 3); told(0, 7) = 494
            turns(0, 4); told(0, 7) = 2006; turns(0, 5); told(0, 7) = 0
            text "push 0-100"
            turns(0, 1); told(0, 7) = 0; turns(0, 2); told(0, 7) = 4; turns(0, 3); told(0, 7) = 0
            turns(0, 4); told(0, 7) = 8; turns(0, 5); told(0, 7) = 0
            """);
        says("1", "without a TEXT: WEIGHT times LEAN, without its sign, / 10", """
            house(0, 99, 50, 0); told(0, 7) = 495; set(0, 2, -50); told(0, 7) = 495; set(0, 2, 0); told(0, 7) = 0
            set(0, 1, 1); set(0, 2, 9); told(0, 7) = 0; set(0, 2, 10); told(0, 7) = 1; set(0, 2, -9); told(0, 7) = 0; set(0, 2, -10); told(0, 7) = 1
            """);
        says("1", "TIMBER: half (cut) of as HOUSE", """
            house(1, 10, 7, 0); told(0, 7) = 3; set(0, 2, 6); told(0, 7) = 3; set(0, 2, 1); told(0, 7) = 0; set(0, 2, 2); told(0, 7) = 1
            """);
        says("1", "EMPTY: as TIMBER, less 5 (0 at least)", """
            house(3, 10, 9, 0); told(0, 7) = 0; set(0, 2, 10); told(0, 7) = 0; set(0, 2, 11); told(0, 7) = 0
            set(0, 2, 12); told(0, 7) = 1; set(0, 2, 14); told(0, 7) = 2; set(0, 2, 0); told(0, 7) = 0
            """);
        says("1", "BRICK: as HOUSE, and 4. DOUBLE: twice as BRICK. FLOATING: 0.", """
            house(2, 10, 0, 0); told(0, 7) = 4; set(0, 2, -7); told(0, 7) = 11
            turns(0, 4); told(0, 7) = 22; set(0, 2, 0); told(0, 7) = 8
            turns(0, 5); told(0, 7) = 0; set(0, 2, 50); told(0, 7) = 0
            """);
        says("1", "BEARS: HOUSE: WALL, and 10 for each PROP. TIMBER: as HOUSE, and 5. EMPTY: as TIMBER. BRICK: twice as HOUSE. DOUBLE: as BRICK. FLOATING: 999.", """
            house(0, 1, 0, 0)
            told(0, 8) = 0; turns(0, 1); told(0, 8) = 5; turns(0, 2); told(0, 8) = 0; turns(0, 3); told(0, 8) = 5
            turns(0, 4); told(0, 8) = 0; turns(0, 5); told(0, 8) = 999
            set(0, 3, 99); set(0, 5, 9); turns(0, 0)
            told(0, 8) = 189; turns(0, 1); told(0, 8) = 194; turns(0, 2); told(0, 8) = 378; turns(0, 3); told(0, 8) = 194
            turns(0, 4); told(0, 8) = 378; turns(0, 5); told(0, 8) = 999
            """);
        says("1", "WORTH: HOUSE: WALL. TIMBER: as HOUSE, and 7. EMPTY: twice as TIMBER. BRICK: 99 less WALL. DOUBLE: as BRICK, less 5. FLOATING: 6.", """
            house(0, 1, 0, 0)
            told(0, 10) = 0; turns(0, 1); told(0, 10) = 7; turns(0, 2); told(0, 10) = 99; turns(0, 3); told(0, 10) = 14
            turns(0, 4); told(0, 10) = 94; turns(0, 5); told(0, 10) = 6
            set(0, 3, 99); turns(0, 0)
            told(0, 10) = 99; turns(0, 1); told(0, 10) = 106; turns(0, 2); told(0, 10) = 0; turns(0, 3); told(0, 10) = 212
            turns(0, 4); told(0, 10) = -5; turns(0, 5); told(0, 10) = 6
            """);
        says("1", "what the next one with the lesser number PUSHES, if its LEAN is above 0", """
            house(0, 1, 0, 99); house(0, 1, 0, 99); text "push 7"
            told(1, 9) = 0; set(0, 2, 1); told(1, 9) = 7; set(0, 2, -1); told(1, 9) = 0; set(0, 2, 50); told(1, 9) = 7; told(0, 9) = 0
            """);
        says("1", "less what the next one with the greater number PUSHES, if its LEAN is below 0", """
            house(0, 1, 0, 99); house(0, 1, 0, 99); text "push 7"
            told(0, 9) = 0; set(1, 2, -1); told(0, 9) = -7; set(1, 2, 1); told(0, 9) = 0; set(1, 2, -50); told(0, 9) = -7; told(1, 9) = 0
            """);
        says("1", "and SNOW (0 on one that is FALLEN)", """
            house(0, 10, 20, 99); house(0, 1, 0, 99); snow(20)
            told(0, 9) = 20; told(1, 9) = 40; fells(1); told(1, 9) = 0; told(0, 9) = 20
            snow(-20); told(0, 9) = -20; told(1, 9) = 0; raises(1); told(1, 9) = 0; snow(-19); told(1, 9) = 1
            """);
        says("1", "It HOLDS, if STRAIN is not above what it BEARS", """
            house(0, 1, 0, 5)
            snow(5); street(4) = 0; snow(6); street(4) = 1; snow(-5); street(4) = 0; snow(-6); street(4) = 1
            set(0, 3, 0); snow(0); street(4) = 0; snow(1); street(4) = 1; snow(-1); street(4) = 1
            fells(0); street(4) = 0
            # FLOATING bears 999, and no more
            new
            house(0, 1, 1, 99); house(5, 1, 0, 0); text "push 999"
            told(1, 9) = 999; street(4) = 0; days(1) = 0; told(1, 4) = 0; told(1, 2) = 0
            snow(1); told(1, 9) = 1000; street(4) = 2; days(1) = 0; told(1, 4) = 1; told(1, 2) = 1
            """);
    }

    private static void aDay() {
        says("2", "(1) THRUSTS, STRAINS of all, and what they BEAR, as it is", """
            # each pushes by its CRACK, and each cracks on this DAY
            house(0, 1, 1, 0); house(0, 1, -1, 0); text "push c"; set(0, 4, 3); set(1, 4, 5)
            days(1) = 0; told(0, 4) = 8; told(1, 4) = 8; told(0, 2) = 0; told(1, 2) = 0
            # a HOUSE whose LEAN comes from 0 to 1 on this DAY does not push on it yet
            new
            house(0, 1, 0, 19); house(0, 1, 0, 20); snow(20); text "push 10"
            days(1) = 0; told(0, 2) = 1; told(1, 4) = 0; days(1) = 0; told(1, 4) = 10
            """);
        says("2", "Of each that STANDS and does not HOLD (by (1)): CRACK is more by what STRAIN is above what it BEARS", """
            house(0, 1, 0, 5); snow(5); days(1) = 0; told(0, 4) = 0; told(0, 2) = 0
            snow(6); days(1) = 0; told(0, 4) = 1; told(0, 2) = 1
            snow(-20); days(1) = 0; told(0, 4) = 16; told(0, 2) = 0
            snow(-5); days(1) = 0; told(0, 4) = 16; told(0, 2) = 0
            fells(0); snow(20); days(3) = 0; told(0, 4) = 16; told(0, 2) = 0
            """);
        says("2", "(999 at most)", """
            house(0, 1, 0, 0); snow(1); set(0, 4, 997); days(1) = 1; told(0, 4) = 998
            raises(0); set(0, 4, 998); days(1) = 1; told(0, 4) = 999
            raises(0); set(0, 4, 999); days(1) = 1; told(0, 4) = 999
            raises(0); snow(20); set(0, 4, 980); days(1) = 1; told(0, 4) = 999
            """);
        says("2", "LEAN is 1 more, if its THRUST is above 0, 1 less, if it is below 0 (held within -50 .. 50)", """
            house(0, 1, 48, 0); snow(1)
            days(1) = 0; told(0, 2) = 49; days(1) = 0; told(0, 2) = 50; days(1) = 0; told(0, 2) = 50; told(0, 4) = 3
            snow(-20); days(1) = 0; told(0, 2) = 49
            set(0, 2, -48); snow(-1)
            days(1) = 0; told(0, 2) = -49; days(1) = 0; told(0, 2) = -50; days(1) = 0; told(0, 2) = -50
            snow(20); days(1) = 0; told(0, 2) = -49
            """);
        says("2", "(3) Each that STANDS, whose CRACK is 100 or more, is FALLEN", """
            house(5, 1, 0, 0); set(0, 4, 99); days(100) = 0; street(1) = 1; set(0, 4, 100); days(1) = 1; street(1) = 0; told(0, 4) = 100
            raises(0); set(0, 4, 999); days(1) = 1
            # by what came to it on this DAY
            new
            house(0, 1, 0, 0); snow(1); set(0, 4, 98); days(1) = 0; told(0, 4) = 99; days(1) = 1; told(0, 4) = 100; days(1) = 0; told(0, 4) = 100
            """);
        says("2", "(its PROPS are gone: 0)", """
            house(5, 1, 20, 0); house(5, 1, 0, 0); house(5, 1, 0, 0); set(0, 5, 9); set(1, 5, 9); set(2, 5, 9); set(1, 4, 100)
            days(1) = 2; told(0, 5) = 0; told(1, 5) = 0; told(2, 5) = 9; street(0) = 9
            """);
    }

    private static void fallsWithOthers() {
        says("2", "each that STANDS yet and LEANS with 20 or more, if the next one with the greater number of those that stood ahead of this DAY is FALLEN by now", """
            house(5, 1, 19, 0); house(5, 1, 0, 0); set(1, 4, 100); days(1) = 1; street(1) = 1
            new
            house(5, 1, 20, 0); house(5, 1, 0, 0); set(1, 4, 100); days(1) = 2; street(1) = 0
            new
            house(5, 1, 50, 0); house(5, 1, 0, 0); set(1, 4, 100); days(1) = 2
            # it does not lean on the lesser one
            new
            house(5, 1, 0, 0); house(5, 1, 50, 0); set(0, 4, 100); days(1) = 1; street(1) = 2
            # by the LEAN that it has behind (2)
            new
            house(0, 1, 19, 0); house(5, 1, 0, 0); set(1, 4, 100); snow(1); days(1) = 2
            new
            house(0, 1, 20, 0); house(5, 1, 0, 0); set(1, 4, 100); snow(-1); days(1) = 1; told(0, 2) = 19; told(0, 6) = 1
            """);
        says("2", "and with -20 or less, if the next one with the lesser number of these is", """
            house(5, 1, 0, 0); house(5, 1, -19, 0); set(0, 4, 100); days(1) = 1; street(1) = 2
            new
            house(5, 1, 0, 0); house(5, 1, -20, 0); set(0, 4, 100); days(1) = 2; street(1) = 0
            new
            house(5, 1, 0, 0); house(5, 1, -50, 0); set(0, 4, 100); days(1) = 2
            new
            house(5, 1, -50, 0); house(5, 1, 0, 0); set(1, 4, 100); days(1) = 1; street(1) = 1
            new
            house(5, 1, 0, 0); house(0, 1, -19, 0); set(0, 4, 100); snow(-1); days(1) = 2
            new
            house(5, 1, 0, 0); house(0, 1, -20, 0); set(0, 4, 100); snow(1); days(1) = 1; told(1, 2) = -19; told(1, 6) = 1
            """);
        says("2", "of those that stood ahead of this DAY", """
            # one that was FALLEN ahead of it takes none with it, and is passed over
            house(5, 1, 20, 0); house(5, 1, 0, 0); house(5, 1, 0, 0); fells(1); days(100) = 0; street(1) = 5
            set(2, 4, 100); days(1) = 2; street(1) = 0
            new
            house(5, 1, 0, 0); house(5, 1, 0, 0); house(5, 1, -20, 0); fells(1); days(100) = 0; street(1) = 5
            set(0, 4, 100); days(1) = 2
            # one that falls on this DAY is not passed over: the one behind it still stands, and it falls all the same
            new
            house(5, 1, 20, 0); house(5, 1, 0, 0); house(5, 1, 0, 0); set(1, 4, 100); days(1) = 2; street(1) = 4
            # and none that stands yet saves it on the DAY behind
            days(100) = 0; street(1) = 4
            """);
        says("2", "again and again", """
            9 * house(5, 1, 20, 0)
            set(8, 4, 100); days(1) = 9; street(1) = 0
            new
            9 * house(5, 1, -20, 0)
            set(0, 4, 100); days(1) = 9; street(1) = 0
            # one that holds with 19 parts them
            new
            3 * house(5, 1, 20, 0)
            house(5, 1, 19, 0)
            5 * house(5, 1, 20, 0)
            set(8, 4, 100); days(1) = 5; street(1) = 15
            # both ways, and the ones at the ends lean on THE CHURCH
            new
            house(5, 1, -50, 0); 3 * house(5, 1, 20, 0)
            house(5, 1, 0, 0); 3 * house(5, 1, -20, 0)
            house(5, 1, 50, 0)
            set(4, 4, 100); days(1) = 7; street(1) = 257
            """);
        says("2", "(4) RENT is as much more as there are PROPS. THE DAY is 1 more.", """
            days(1) = 0; street(0) = 0; count(2) = 1
            9 * house(5, 1, 0, 0)
            days(1) = 0; street(0) = 0; count(2) = 2
            set(0, 5, 9); set(1, 5, 9); set(2, 5, 9); set(3, 5, 9); set(4, 5, 9); set(5, 5, 9); set(6, 5, 9); set(7, 5, 9); set(8, 5, 9)
            days(1) = 0; street(0) = 81; count(2) = 3; days(100) = 0; street(0) = 8181; days(100) = 0; street(0) = 16281; count(2) = 203
            # those of one that falls on it are not let on it any more
            set(4, 4, 100); days(1) = 1; street(0) = 16353
            """);
    }

    /** z is an int, so that it wraps, and >>> takes a z below 0 as a great one. */
    private static void draws() {
        int[] least = {9, 99, 99, 99};
        int[] most = {-9, -99, -99, -99};
        int[] by = {6, 60, 41, 60};
        int[] more = {0, 1, -20, 0};
        for (int seed = -150; seed <= 150; seed++) {
            LeaningStreet x = new LeaningStreet();
            int z = seed == -150 ? Integer.MIN_VALUE : seed == 150 ? Integer.MAX_VALUE : seed * 7654321;
            if (seed != 1) Runs.due("2 'z is told (1 at first)'", x.seed(z), 1);
            else z = 1;
            x.deal(9);
            for (int k = 0; k < 9; k++) {
                for (int what = 0; what < 4; what++) {
                    z = (int) (z * 1103515245L + 12345);
                    int want = (int) ((z & 0xffffffffL) / 256 % by[what]) + more[what];
                    Runs.due("2 'HOUSES that are drawn', seed " + seed, x.told(k, what), want);
                    least[what] = Math.min(least[what], x.told(k, what));
                    most[what] = Math.max(most[what], x.told(k, what));
                }
            }
            Runs.due("2 'z becomes z * 1103515245 + 12345 (an int)', seed " + seed, x.count(7), z);
        }
        for (int what = 0; what < 4; what++) {
            Runs.due("2 'HOUSES that are drawn', the least of " + what, least[what], new int[] {0, 1, -20, 0}[what]);
            Runs.due("2 'HOUSES that are drawn', the most of " + what, most[what], new int[] {5, 60, 20, 59}[what]);
        }
    }

    public static void main(String[] args) {
        theFace();
        terms();
        theFirstOfSeveral();
        houses();
        pushesBearsWorth();
        aDay();
        fallsWithOthers();
        draws();
        Runs.end("the terms hold at their boundaries");
    }
}
